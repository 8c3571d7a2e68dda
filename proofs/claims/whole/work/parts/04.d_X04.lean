theorem dX4_init_0 : decode cX4_init 0 = .ok (.aload_n 0, 1) := by decide +kernel
theorem dX4_init_1 : decode cX4_init 1 = .ok (.invokespecial 3, 3) := by decide +kernel
theorem dX4_init_4 : decode cX4_init 4 = .ok (.aload_n 0, 1) := by decide +kernel
theorem dX4_init_5 : decode cX4_init 5 = .ok (.aload_n 1, 1) := by decide +kernel
theorem dX4_init_6 : decode cX4_init 6 = .ok (.putfield 9, 3) := by decide +kernel
theorem dX4_init_9 : decode cX4_init 9 = .ok (.aload_n 0, 1) := by decide +kernel
theorem dX4_init_10 : decode cX4_init 10 = .ok (.aload_n 2, 1) := by decide +kernel
theorem dX4_init_11 : decode cX4_init 11 = .ok (.putfield 15, 3) := by decide +kernel
theorem dX4_init_14 : decode cX4_init 14 = .ok (.return_, 1) := by decide +kernel
set_option maxRecDepth 20000 in
theorem ggX4_read_X0_clear : GoodIn wsX4_read wsX0_clear := goodIn_r _ [9, 10, 11, 12, 13, 14, 15, 16, 17, 18, 19, 20, 21, 22, 23, 24, 276, 277, 278, 279, 280, 281, 282, 283, 284, 285, 286, 287, 288, 289, 290, 291, 292, 293] rfl (by decide +kernel)
set_option maxRecDepth 20000 in
theorem gX4_read_X0_clear : GoodIn wsX4_read (wsV RX4 19 RX0 yX0_clear wsX0_clear) := goodIn_app (goodIn_of _ (by decide +kernel)) ggX4_read_X0_clear
set_option maxRecDepth 20000 in
theorem ggX4_read_X9_begin : GoodIn wsX4_read wsX9_begin := goodIn_r _ [29, 30, 31, 32, 33, 34, 28, 35, 36, 37, 38, 39, 40, 41, 42, 43, 44, 45, 46, 47, 48, 49, 50, 51, 52, 53, 54, 55, 56, 57, 58, 59, 60, 61, 62, 63, 64, 65, 66, 67, 68, 69, 70, 71, 72, 73, 74, 75, 76, 77, 78, 79, 80, 81, 82, 83, 84, 85, 86, 87, 88, 89, 90, 91, 92, 93, 94, 95, 96, 97, 98, 99, 100, 101, 102, 103, 104, 105, 106, 107, 108, 109, 110, 111, 112, 268, 269, 270, 271, 272, 273, 274, 275] rfl (by decide +kernel)
set_option maxRecDepth 20000 in
theorem gX4_read_X9_begin : GoodIn wsX4_read (wsV RX4 28 RX9 yX9_begin wsX9_begin) := goodIn_app (goodIn_of _ (by decide +kernel)) ggX4_read_X9_begin
set_option maxRecDepth 20000 in
theorem ggX4_read_X4_readLine : GoodIn wsX4_read wsX4_readLine := goodIn_r _ [117, 3, 118, 119, 120, 121, 122, 123, 124, 125, 126, 127, 116, 128, 1, 129, 130, 131, 132, 133, 134, 135, 136, 137, 138, 139, 140, 2, 141, 33, 34, 28, 35, 31, 30, 36, 37, 38, 39, 40, 41, 42, 43, 44, 45, 46, 47, 48, 49, 50, 51, 52, 53, 54, 55, 56, 57, 58, 59, 60, 61, 62, 63, 64, 65, 66, 67, 68, 69, 70, 71, 72, 73, 74, 75, 76, 77, 78, 79, 80, 81, 82, 83, 84, 85, 86, 87, 88, 89, 90, 91, 92, 93, 94, 95, 96, 97, 98, 99, 100, 101, 102, 103, 104, 105, 106, 107, 108, 109, 110, 111, 112, 142, 143, 144, 145, 146, 147, 148, 149, 150, 151, 152, 153, 154, 155, 156, 4, 157, 158, 159, 160, 161, 162, 163, 164, 165, 166, 167, 168, 169, 170, 171, 172, 173, 174, 175, 176, 177, 178, 179, 180, 181, 182, 183, 184, 185, 186, 187, 188, 189, 190, 191, 192, 193, 194, 195, 196, 197, 198, 199, 200, 201, 202, 203, 204, 205, 206, 207, 208, 209, 210, 211, 212, 213, 214, 215, 216, 217, 218, 219, 220, 221, 222, 21, 223, 224, 24, 225, 226, 227, 228, 229, 230, 231, 232, 233, 234, 235, 236, 237, 238, 239, 240, 241, 242, 243, 244, 245, 246, 247, 248, 249, 250, 251, 252, 253, 254, 255, 256, 257, 258, 259, 260, 265, 266, 267, 268, 269, 270, 271, 272, 273, 274, 275, 276, 277, 278, 279, 280, 281, 282, 283, 284, 285, 286, 287, 294, 295, 288, 289, 290, 291, 292, 293] rfl (by decide +kernel)
set_option maxRecDepth 20000 in
theorem gX4_read_X4_readLine : GoodIn wsX4_read (wsV RX4 37 RX4 yX4_readLine wsX4_readLine) := goodIn_app (goodIn_of _ (by decide +kernel)) ggX4_read_X4_readLine
set_option maxRecDepth 20000 in
theorem ggX4_read_X4_takeLineEnd : GoodIn wsX4_read wsX4_takeLineEnd := goodIn_r _ [264, 3, 4, 137, 138, 139, 116, 140, 2, 141, 33, 34, 28, 35, 31, 30, 36, 37, 38, 39, 40, 41, 42, 43, 44, 45, 46, 47, 48, 49, 50, 51, 52, 53, 54, 55, 56, 57, 58, 59, 60, 61, 62, 63, 64, 65, 66, 67, 68, 69, 70, 71, 72, 73, 74, 75, 76, 77, 78, 79, 80, 81, 82, 83, 84, 85, 86, 87, 88, 89, 90, 91, 92, 93, 94, 95, 96, 97, 98, 99, 100, 101, 102, 103, 104, 105, 106, 107, 108, 109, 110, 111, 112, 265, 266, 267, 268, 269, 270, 271, 272, 273, 274, 275] rfl (by decide +kernel)
set_option maxRecDepth 20000 in
theorem gX4_read_X4_takeLineEnd : GoodIn wsX4_read (wsV RX4 41 RX4 yX4_takeLineEnd wsX4_takeLineEnd) := goodIn_app (goodIn_of _ (by decide +kernel)) ggX4_read_X4_takeLineEnd
theorem dX4_read_0 : decode cX4_read 0 = .ok (.aload_n 0, 1) := by decide +kernel
theorem dX4_read_1 : decode cX4_read 1 = .ok (.aload_n 2, 1) := by decide +kernel
theorem dX4_read_2 : decode cX4_read 2 = .ok (.putfield 15, 3) := by decide +kernel
theorem dX4_read_5 : decode cX4_read 5 = .ok (.aload_n 0, 1) := by decide +kernel
theorem dX4_read_6 : decode cX4_read 6 = .ok (.getfield 15, 3) := by decide +kernel
theorem dX4_read_9 : decode cX4_read 9 = .ok (.invokevirtual 19, 3) := by decide +kernel
theorem dX4_read_12 : decode cX4_read 12 = .ok (.aload_n 0, 1) := by decide +kernel
theorem dX4_read_13 : decode cX4_read 13 = .ok (.iconst 0, 1) := by decide +kernel
theorem dX4_read_14 : decode cX4_read 14 = .ok (.putfield 24, 3) := by decide +kernel
theorem dX4_read_17 : decode cX4_read 17 = .ok (.aload_n 0, 1) := by decide +kernel
theorem dX4_read_18 : decode cX4_read 18 = .ok (.getfield 9, 3) := by decide +kernel
theorem dX4_read_21 : decode cX4_read 21 = .ok (.iload_n 1, 1) := by decide +kernel
theorem dX4_read_22 : decode cX4_read 22 = .ok (.invokevirtual 28, 3) := by decide +kernel
theorem dX4_read_25 : decode cX4_read 25 = .ok (.iconst 1, 1) := by decide +kernel
theorem dX4_read_26 : decode cX4_read 26 = .ok (.istore_n 3, 1) := by decide +kernel
theorem dX4_read_27 : decode cX4_read 27 = .ok (.iconst 0, 1) := by decide +kernel
theorem dX4_read_28 : decode cX4_read 28 = .ok (.istore 4, 2) := by decide +kernel
theorem dX4_read_30 : decode cX4_read 30 = .ok (.iload 4, 2) := by decide +kernel
theorem dX4_read_32 : decode cX4_read 32 = .ok (.sipush 700, 3) := by decide +kernel
theorem dX4_read_35 : decode cX4_read 35 = .ok (.if_icmp .ge 43, 3) := by decide +kernel
theorem dX4_read_38 : decode cX4_read 38 = .ok (.iload_n 3, 1) := by decide +kernel
theorem dX4_read_39 : decode cX4_read 39 = .ok (.ifCond .eq 39, 3) := by decide +kernel
theorem dX4_read_42 : decode cX4_read 42 = .ok (.aload_n 0, 1) := by decide +kernel
theorem dX4_read_43 : decode cX4_read 43 = .ok (.getfield 9, 3) := by decide +kernel
theorem dX4_read_46 : decode cX4_read 46 = .ok (.getfield 34, 3) := by decide +kernel
theorem dX4_read_49 : decode cX4_read 49 = .ok (.ifCond .eq 29, 3) := by decide +kernel
theorem dX4_read_52 : decode cX4_read 52 = .ok (.aload_n 0, 1) := by decide +kernel
theorem dX4_read_53 : decode cX4_read 53 = .ok (.invokevirtual 37, 3) := by decide +kernel
theorem dX4_read_56 : decode cX4_read 56 = .ok (.ifCond .eq 14, 3) := by decide +kernel
theorem dX4_read_59 : decode cX4_read 59 = .ok (.aload_n 0, 1) := by decide +kernel
theorem dX4_read_60 : decode cX4_read 60 = .ok (.invokevirtual 41, 3) := by decide +kernel
theorem dX4_read_63 : decode cX4_read 63 = .ok (.ifCond .eq 7, 3) := by decide +kernel
theorem dX4_read_66 : decode cX4_read 66 = .ok (.iconst 1, 1) := by decide +kernel
theorem dX4_read_67 : decode cX4_read 67 = .ok (.goto 4, 3) := by decide +kernel
theorem dX4_read_70 : decode cX4_read 70 = .ok (.iconst 0, 1) := by decide +kernel
theorem dX4_read_71 : decode cX4_read 71 = .ok (.istore_n 3, 1) := by decide +kernel
theorem dX4_read_72 : decode cX4_read 72 = .ok (.iinc 4 1, 3) := by decide +kernel
theorem dX4_read_75 : decode cX4_read 75 = .ok (.goto (-45), 3) := by decide +kernel
theorem dX4_read_78 : decode cX4_read 78 = .ok (.aload_n 0, 1) := by decide +kernel
theorem dX4_read_79 : decode cX4_read 79 = .ok (.getfield 24, 3) := by decide +kernel
theorem dX4_read_82 : decode cX4_read 82 = .ok (.ireturn, 1) := by decide +kernel
theorem dX4_refuse_0 : decode cX4_refuse 0 = .ok (.aload_n 0, 1) := by decide +kernel
theorem dX4_refuse_1 : decode cX4_refuse 1 = .ok (.iload_n 1, 1) := by decide +kernel
theorem dX4_refuse_2 : decode cX4_refuse 2 = .ok (.putfield 24, 3) := by decide +kernel
theorem dX4_refuse_5 : decode cX4_refuse 5 = .ok (.iconst 0, 1) := by decide +kernel
theorem dX4_refuse_6 : decode cX4_refuse 6 = .ok (.ireturn, 1) := by decide +kernel
set_option maxRecDepth 20000 in
theorem ggX4_readLine_X4_readThing : GoodIn wsX4_readLine wsX4_readThing := goodIn_r _ [13, 14, 15, 1, 16, 17, 18, 19, 20, 21, 22, 23, 24, 25, 12, 26, 27, 28, 29, 30, 31, 32, 33, 34, 35, 36, 37, 38, 39, 40, 41, 42, 43, 44, 45, 46, 47, 48, 49, 50, 51, 52, 53, 54, 55, 56, 57, 58, 59, 60, 61, 62, 63, 64, 65, 66, 67, 68, 69, 70, 71, 72, 73, 74, 75, 76, 77, 78, 79, 80, 81, 82, 83, 84, 85, 86, 87, 88, 89, 90, 91, 92, 93, 94, 95, 96, 97, 98, 99, 100, 101, 102, 103, 104, 105, 106, 107, 108, 109, 110, 111, 112, 113, 114, 115, 116, 117, 118, 119, 120, 121, 122, 123, 124, 125, 126, 127, 128, 129, 130, 131, 132, 133, 134, 135, 136, 137, 138, 139, 140, 141, 142, 143, 144, 234, 235, 236, 245, 246, 247, 248, 249, 250, 251, 252, 253, 254, 255, 256, 237, 238, 239, 240, 241, 242, 243, 244, 257, 258] rfl (by decide +kernel)
set_option maxRecDepth 20000 in
theorem gX4_readLine_X4_readThing : GoodIn wsX4_readLine (wsV RX4 53 RX4 yX4_readThing wsX4_readThing) := goodIn_app (goodIn_of _ (by decide +kernel)) ggX4_readLine_X4_readThing
set_option maxRecDepth 20000 in
theorem ggX4_readLine_X4_readPerson : GoodIn wsX4_readLine wsX4_readPerson := goodIn_r _ [148, 14, 149, 1, 150, 23, 24, 25, 12, 26, 27, 28, 29, 30, 31, 32, 33, 34, 35, 36, 37, 38, 39, 40, 41, 42, 43, 44, 45, 46, 47, 48, 49, 50, 51, 52, 53, 54, 55, 56, 57, 58, 59, 60, 61, 62, 63, 64, 65, 66, 67, 68, 69, 70, 71, 72, 73, 74, 75, 76, 77, 78, 79, 80, 81, 82, 83, 84, 85, 86, 87, 88, 89, 90, 91, 92, 93, 94, 95, 96, 97, 98, 99, 100, 101, 102, 103, 104, 105, 106, 107, 108, 109, 110, 111, 119, 120, 121, 122, 22, 123, 124, 125, 126, 127, 112, 113, 114, 115, 116, 117, 118, 234, 235, 236, 245, 246, 247, 248, 249, 250, 251, 252, 253, 254, 255, 256, 237, 238, 239, 240, 241, 242, 243, 244, 257, 258] rfl (by decide +kernel)
set_option maxRecDepth 20000 in
theorem gX4_readLine_X4_readPerson : GoodIn wsX4_readLine (wsV RX4 60 RX4 yX4_readPerson wsX4_readPerson) := goodIn_app (goodIn_of _ (by decide +kernel)) ggX4_readLine_X4_readPerson
set_option maxRecDepth 20000 in
theorem ggX4_readLine_X4_readCase : GoodIn wsX4_readLine wsX4_readCase := goodIn_r _ [154, 14, 21, 1, 149, 140, 2, 155, 23, 24, 25, 12, 26, 27, 28, 29, 30, 31, 32, 33, 34, 35, 36, 37, 38, 39, 40, 41, 42, 43, 44, 45, 46, 47, 48, 49, 50, 51, 52, 53, 54, 55, 56, 57, 58, 59, 60, 61, 62, 63, 64, 65, 66, 67, 68, 69, 70, 71, 72, 73, 74, 75, 76, 77, 78, 79, 80, 81, 82, 83, 84, 85, 86, 87, 88, 89, 90, 91, 92, 93, 94, 95, 96, 97, 98, 99, 100, 101, 102, 103, 104, 105, 106, 107, 108, 109, 110, 111, 132, 133, 134, 135, 22, 123, 124, 125, 126, 127, 141, 142, 143, 144, 112, 113, 114, 115, 116, 117, 118, 119, 120, 121, 122, 234, 235, 236, 245, 246, 247, 248, 249, 250, 251, 252, 253, 254, 255, 256, 237, 238, 239, 240, 241, 242, 243, 244, 257, 258] rfl (by decide +kernel)
set_option maxRecDepth 20000 in
theorem gX4_readLine_X4_readCase : GoodIn wsX4_readLine (wsV RX4 66 RX4 yX4_readCase wsX4_readCase) := goodIn_app (goodIn_of _ (by decide +kernel)) ggX4_readLine_X4_readCase
set_option maxRecDepth 20000 in
theorem ggX4_readLine_X4_readPost : GoodIn wsX4_readLine wsX4_readPost := goodIn_r _ [159, 14, 160, 1, 161, 23, 24, 25, 12, 26, 27, 28, 29, 30, 31, 32, 33, 34, 35, 36, 37, 38, 39, 40, 41, 42, 43, 44, 45, 46, 47, 48, 49, 50, 51, 52, 53, 54, 55, 56, 57, 58, 59, 60, 61, 62, 63, 64, 65, 66, 67, 68, 69, 70, 71, 72, 73, 74, 75, 76, 77, 78, 79, 80, 81, 82, 83, 84, 85, 86, 87, 88, 89, 90, 91, 92, 93, 94, 95, 96, 97, 98, 99, 100, 101, 102, 103, 104, 105, 106, 107, 108, 109, 110, 111, 123, 124, 125, 126, 127, 22, 162, 163, 164, 165, 128, 129, 130, 115, 131, 117, 118, 141, 142, 143, 144, 112, 113, 114, 116, 119, 120, 121, 122, 234, 235, 236, 245, 246, 247, 248, 249, 250, 251, 252, 253, 254, 255, 256, 237, 238, 239, 240, 241, 242, 243, 244, 257, 258] rfl (by decide +kernel)
set_option maxRecDepth 20000 in
theorem gX4_readLine_X4_readPost : GoodIn wsX4_readLine (wsV RX4 72 RX4 yX4_readPost wsX4_readPost) := goodIn_app (goodIn_of _ (by decide +kernel)) ggX4_readLine_X4_readPost
set_option maxRecDepth 20000 in
theorem ggX4_readLine_X4_readLooks : GoodIn wsX4_readLine wsX4_readLooks := goodIn_r _ [169, 14, 170, 1, 22, 171, 172, 23, 24, 25, 12, 26, 27, 28, 29, 30, 31, 32, 33, 34, 35, 36, 37, 38, 39, 40, 41, 42, 43, 44, 45, 46, 47, 48, 49, 50, 51, 52, 53, 54, 55, 56, 57, 58, 59, 60, 61, 62, 63, 64, 65, 66, 67, 68, 69, 70, 71, 72, 73, 74, 75, 76, 77, 78, 79, 80, 81, 82, 83, 84, 85, 86, 87, 88, 89, 90, 91, 92, 93, 94, 95, 96, 97, 98, 99, 100, 101, 102, 103, 104, 105, 106, 107, 108, 109, 110, 111, 123, 124, 125, 126, 127, 234, 235, 236, 245, 246, 247, 248, 249, 250, 251, 252, 253, 254, 255, 256, 237, 238, 239, 240, 241, 242, 243, 244] rfl (by decide +kernel)
set_option maxRecDepth 20000 in
theorem gX4_readLine_X4_readLooks : GoodIn wsX4_readLine (wsV RX4 78 RX4 yX4_readLooks wsX4_readLooks) := goodIn_app (goodIn_of _ (by decide +kernel)) ggX4_readLine_X4_readLooks
set_option maxRecDepth 20000 in
theorem ggX4_readLine_X4_readFee : GoodIn wsX4_readLine wsX4_readFee := goodIn_r _ [176, 14, 177, 178, 1, 23, 24, 25, 12, 26, 27, 28, 29, 30, 31, 32, 33, 34, 35, 36, 37, 38, 39, 40, 41, 42, 43, 44, 45, 46, 47, 48, 49, 50, 51, 52, 53, 54, 55, 56, 57, 58, 59, 60, 61, 62, 63, 64, 65, 66, 67, 68, 69, 70, 71, 72, 73, 74, 75, 76, 77, 78, 79, 80, 81, 82, 83, 84, 85, 86, 87, 88, 89, 90, 91, 92, 93, 94, 95, 96, 97, 98, 99, 100, 101, 102, 103, 104, 105, 106, 107, 108, 109, 110, 111, 179, 180, 181, 182, 127, 2, 183, 184, 185, 186, 187, 188, 189, 190, 191, 192, 193, 194, 195, 196, 197, 198, 199, 200, 115, 201, 118, 202, 203, 204, 205, 206, 207, 208, 209, 210, 211, 212, 22, 213, 214, 215, 216, 217, 218, 219, 220, 221, 222, 223, 224, 225, 226, 227, 228, 229, 230, 231, 232, 233, 234, 235, 236, 245, 246, 247, 248, 249, 250, 251, 252, 253, 254, 255, 256, 259, 260, 261, 262, 263, 264, 237, 238, 239, 240, 241, 242, 243, 244, 257, 258] rfl (by decide +kernel)
set_option maxRecDepth 20000 in
theorem gX4_readLine_X4_readFee : GoodIn wsX4_readLine (wsV RX4 84 RX4 yX4_readFee wsX4_readFee) := goodIn_app (goodIn_of _ (by decide +kernel)) ggX4_readLine_X4_readFee
set_option maxRecDepth 20000 in
theorem ggX4_readLine_X4_refuse : GoodIn wsX4_readLine wsX4_refuse := goodIn_r _ [26, 27, 234, 235, 236] rfl (by decide +kernel)
set_option maxRecDepth 20000 in
theorem gX4_readLine_X4_refuse : GoodIn wsX4_readLine (wsV RX4 87 RX4 yX4_refuse wsX4_refuse) := goodIn_app (goodIn_of _ (by decide +kernel)) ggX4_readLine_X4_refuse
theorem dX4_readLine_0 : decode cX4_readLine 0 = .ok (.aload_n 0, 1) := by decide +kernel
theorem dX4_readLine_1 : decode cX4_readLine 1 = .ok (.getfield 9, 3) := by decide +kernel
theorem dX4_readLine_4 : decode cX4_readLine 4 = .ok (.getfield 44, 3) := by decide +kernel
theorem dX4_readLine_7 : decode cX4_readLine 7 = .ok (.getfield 48, 3) := by decide +kernel
theorem dX4_readLine_10 : decode cX4_readLine 10 = .ok (.iconst (-1), 1) := by decide +kernel
theorem dX4_readLine_11 : decode cX4_readLine 11 = .ok (.if_icmp .eq 18, 3) := by decide +kernel
theorem dX4_readLine_14 : decode cX4_readLine 14 = .ok (.aload_n 0, 1) := by decide +kernel
theorem dX4_readLine_15 : decode cX4_readLine 15 = .ok (.aload_n 0, 1) := by decide +kernel
theorem dX4_readLine_16 : decode cX4_readLine 16 = .ok (.getfield 9, 3) := by decide +kernel
theorem dX4_readLine_19 : decode cX4_readLine 19 = .ok (.getfield 44, 3) := by decide +kernel
theorem dX4_readLine_22 : decode cX4_readLine 22 = .ok (.getfield 48, 3) := by decide +kernel
theorem dX4_readLine_25 : decode cX4_readLine 25 = .ok (.invokevirtual 53, 3) := by decide +kernel
theorem dX4_readLine_28 : decode cX4_readLine 28 = .ok (.ireturn, 1) := by decide +kernel
theorem dX4_readLine_29 : decode cX4_readLine 29 = .ok (.aload_n 0, 1) := by decide +kernel
theorem dX4_readLine_30 : decode cX4_readLine 30 = .ok (.getfield 9, 3) := by decide +kernel
theorem dX4_readLine_33 : decode cX4_readLine 33 = .ok (.getfield 44, 3) := by decide +kernel
theorem dX4_readLine_36 : decode cX4_readLine 36 = .ok (.getstatic 57, 3) := by decide +kernel
theorem dX4_readLine_39 : decode cX4_readLine 39 = .ok (.if_acmp .ne 8, 3) := by decide +kernel
theorem dX4_readLine_42 : decode cX4_readLine 42 = .ok (.aload_n 0, 1) := by decide +kernel
theorem dX4_readLine_43 : decode cX4_readLine 43 = .ok (.invokevirtual 60, 3) := by decide +kernel
theorem dX4_readLine_46 : decode cX4_readLine 46 = .ok (.ireturn, 1) := by decide +kernel
theorem dX4_readLine_47 : decode cX4_readLine 47 = .ok (.aload_n 0, 1) := by decide +kernel
theorem dX4_readLine_48 : decode cX4_readLine 48 = .ok (.getfield 9, 3) := by decide +kernel
theorem dX4_readLine_51 : decode cX4_readLine 51 = .ok (.getfield 44, 3) := by decide +kernel
theorem dX4_readLine_54 : decode cX4_readLine 54 = .ok (.getstatic 63, 3) := by decide +kernel
theorem dX4_readLine_57 : decode cX4_readLine 57 = .ok (.if_acmp .ne 8, 3) := by decide +kernel
theorem dX4_readLine_60 : decode cX4_readLine 60 = .ok (.aload_n 0, 1) := by decide +kernel
theorem dX4_readLine_61 : decode cX4_readLine 61 = .ok (.invokevirtual 66, 3) := by decide +kernel
theorem dX4_readLine_64 : decode cX4_readLine 64 = .ok (.ireturn, 1) := by decide +kernel
theorem dX4_readLine_65 : decode cX4_readLine 65 = .ok (.aload_n 0, 1) := by decide +kernel
theorem dX4_readLine_66 : decode cX4_readLine 66 = .ok (.getfield 9, 3) := by decide +kernel
theorem dX4_readLine_69 : decode cX4_readLine 69 = .ok (.getfield 44, 3) := by decide +kernel
theorem dX4_readLine_72 : decode cX4_readLine 72 = .ok (.getstatic 69, 3) := by decide +kernel
theorem dX4_readLine_75 : decode cX4_readLine 75 = .ok (.if_acmp .ne 8, 3) := by decide +kernel
theorem dX4_readLine_78 : decode cX4_readLine 78 = .ok (.aload_n 0, 1) := by decide +kernel
theorem dX4_readLine_79 : decode cX4_readLine 79 = .ok (.invokevirtual 72, 3) := by decide +kernel
theorem dX4_readLine_82 : decode cX4_readLine 82 = .ok (.ireturn, 1) := by decide +kernel
theorem dX4_readLine_83 : decode cX4_readLine 83 = .ok (.aload_n 0, 1) := by decide +kernel
theorem dX4_readLine_84 : decode cX4_readLine 84 = .ok (.getfield 9, 3) := by decide +kernel
theorem dX4_readLine_87 : decode cX4_readLine 87 = .ok (.getfield 44, 3) := by decide +kernel
theorem dX4_readLine_90 : decode cX4_readLine 90 = .ok (.getstatic 75, 3) := by decide +kernel
theorem dX4_readLine_93 : decode cX4_readLine 93 = .ok (.if_acmp .ne 8, 3) := by decide +kernel
theorem dX4_readLine_96 : decode cX4_readLine 96 = .ok (.aload_n 0, 1) := by decide +kernel
theorem dX4_readLine_97 : decode cX4_readLine 97 = .ok (.invokevirtual 78, 3) := by decide +kernel
theorem dX4_readLine_100 : decode cX4_readLine 100 = .ok (.ireturn, 1) := by decide +kernel
theorem dX4_readLine_101 : decode cX4_readLine 101 = .ok (.aload_n 0, 1) := by decide +kernel
theorem dX4_readLine_102 : decode cX4_readLine 102 = .ok (.getfield 9, 3) := by decide +kernel
theorem dX4_readLine_105 : decode cX4_readLine 105 = .ok (.getfield 44, 3) := by decide +kernel
theorem dX4_readLine_108 : decode cX4_readLine 108 = .ok (.getstatic 81, 3) := by decide +kernel
theorem dX4_readLine_111 : decode cX4_readLine 111 = .ok (.if_acmp .ne 10, 3) := by decide +kernel
theorem dX4_readLine_114 : decode cX4_readLine 114 = .ok (.aload_n 0, 1) := by decide +kernel
theorem dX4_readLine_115 : decode cX4_readLine 115 = .ok (.invokevirtual 84, 3) := by decide +kernel
theorem dX4_readLine_118 : decode cX4_readLine 118 = .ok (.goto 8, 3) := by decide +kernel
theorem dX4_readLine_121 : decode cX4_readLine 121 = .ok (.aload_n 0, 1) := by decide +kernel
theorem dX4_readLine_122 : decode cX4_readLine 122 = .ok (.iconst 1, 1) := by decide +kernel
theorem dX4_readLine_123 : decode cX4_readLine 123 = .ok (.invokevirtual 87, 3) := by decide +kernel
theorem dX4_readLine_126 : decode cX4_readLine 126 = .ok (.ireturn, 1) := by decide +kernel
set_option maxRecDepth 20000 in
theorem ggX4_takeLineEnd_X4_refuse : GoodIn wsX4_takeLineEnd wsX4_refuse := goodIn_r _ [7, 8, 93, 94, 95] rfl (by decide +kernel)
set_option maxRecDepth 20000 in
theorem gX4_takeLineEnd_X4_refuse : GoodIn wsX4_takeLineEnd (wsV RX4 87 RX4 yX4_refuse wsX4_refuse) := goodIn_app (goodIn_of _ (by decide +kernel)) ggX4_takeLineEnd_X4_refuse
set_option maxRecDepth 20000 in
theorem ggX4_takeLineEnd_X9_advance : GoodIn wsX4_takeLineEnd wsX9_advance := goodIn_r _ [13, 14, 15, 16, 17, 18, 19, 20, 21, 22, 23, 12, 24, 25, 26, 27, 28, 29, 30, 31, 32, 33, 34, 35, 36, 37, 38, 39, 40, 41, 42, 43, 44, 45, 46, 47, 48, 49, 50, 51, 52, 53, 54, 55, 56, 57, 58, 59, 60, 61, 62, 63, 64, 65, 66, 67, 68, 69, 70, 71, 72, 73, 74, 75, 76, 77, 78, 79, 80, 81, 82, 83, 84, 85, 86, 87, 88, 89, 90, 91, 92, 96, 97, 98, 99, 100, 101, 102, 103] rfl (by decide +kernel)
set_option maxRecDepth 20000 in
theorem gX4_takeLineEnd_X9_advance : GoodIn wsX4_takeLineEnd (wsV RX4 90 RX9 yX9_advance wsX9_advance) := goodIn_app (goodIn_of _ (by decide +kernel)) ggX4_takeLineEnd_X9_advance
theorem dX4_takeLineEnd_0 : decode cX4_takeLineEnd 0 = .ok (.aload_n 0, 1) := by decide +kernel
theorem dX4_takeLineEnd_1 : decode cX4_takeLineEnd 1 = .ok (.getfield 9, 3) := by decide +kernel
theorem dX4_takeLineEnd_4 : decode cX4_takeLineEnd 4 = .ok (.getfield 34, 3) := by decide +kernel
theorem dX4_takeLineEnd_7 : decode cX4_takeLineEnd 7 = .ok (.bipush 59, 2) := by decide +kernel
theorem dX4_takeLineEnd_9 : decode cX4_takeLineEnd 9 = .ok (.if_icmp .eq 9, 3) := by decide +kernel
theorem dX4_takeLineEnd_12 : decode cX4_takeLineEnd 12 = .ok (.aload_n 0, 1) := by decide +kernel
theorem dX4_takeLineEnd_13 : decode cX4_takeLineEnd 13 = .ok (.iconst 1, 1) := by decide +kernel
theorem dX4_takeLineEnd_14 : decode cX4_takeLineEnd 14 = .ok (.invokevirtual 87, 3) := by decide +kernel
theorem dX4_takeLineEnd_17 : decode cX4_takeLineEnd 17 = .ok (.ireturn, 1) := by decide +kernel
theorem dX4_takeLineEnd_18 : decode cX4_takeLineEnd 18 = .ok (.aload_n 0, 1) := by decide +kernel
theorem dX4_takeLineEnd_19 : decode cX4_takeLineEnd 19 = .ok (.getfield 9, 3) := by decide +kernel
theorem dX4_takeLineEnd_22 : decode cX4_takeLineEnd 22 = .ok (.invokevirtual 90, 3) := by decide +kernel
theorem dX4_takeLineEnd_25 : decode cX4_takeLineEnd 25 = .ok (.iconst 1, 1) := by decide +kernel
theorem dX4_takeLineEnd_26 : decode cX4_takeLineEnd 26 = .ok (.ireturn, 1) := by decide +kernel
set_option maxRecDepth 20000 in
theorem ggX4_isNumber_X4_refuse : GoodIn wsX4_isNumber wsX4_refuse := goodIn_r _ [8, 9, 10, 11, 12] rfl (by decide +kernel)
set_option maxRecDepth 20000 in
theorem gX4_isNumber_X4_refuse : GoodIn wsX4_isNumber (wsV RX4 87 RX4 yX4_refuse wsX4_refuse) := goodIn_app (goodIn_of _ (by decide +kernel)) ggX4_isNumber_X4_refuse
theorem dX4_isNumber_0 : decode cX4_isNumber 0 = .ok (.aload_n 0, 1) := by decide +kernel
theorem dX4_isNumber_1 : decode cX4_isNumber 1 = .ok (.getfield 9, 3) := by decide +kernel
theorem dX4_isNumber_4 : decode cX4_isNumber 4 = .ok (.getfield 34, 3) := by decide +kernel
theorem dX4_isNumber_7 : decode cX4_isNumber 7 = .ok (.iconst 2, 1) := by decide +kernel
theorem dX4_isNumber_8 : decode cX4_isNumber 8 = .ok (.if_icmp .eq 9, 3) := by decide +kernel
theorem dX4_isNumber_11 : decode cX4_isNumber 11 = .ok (.aload_n 0, 1) := by decide +kernel
theorem dX4_isNumber_12 : decode cX4_isNumber 12 = .ok (.iconst 1, 1) := by decide +kernel
theorem dX4_isNumber_13 : decode cX4_isNumber 13 = .ok (.invokevirtual 87, 3) := by decide +kernel
theorem dX4_isNumber_16 : decode cX4_isNumber 16 = .ok (.ireturn, 1) := by decide +kernel
theorem dX4_isNumber_17 : decode cX4_isNumber 17 = .ok (.aload_n 0, 1) := by decide +kernel
theorem dX4_isNumber_18 : decode cX4_isNumber 18 = .ok (.getfield 9, 3) := by decide +kernel
theorem dX4_isNumber_21 : decode cX4_isNumber 21 = .ok (.getfield 93, 3) := by decide +kernel
theorem dX4_isNumber_24 : decode cX4_isNumber 24 = .ok (.iload_n 1, 1) := by decide +kernel
theorem dX4_isNumber_25 : decode cX4_isNumber 25 = .ok (.if_icmp .lt 14, 3) := by decide +kernel
theorem dX4_isNumber_28 : decode cX4_isNumber 28 = .ok (.aload_n 0, 1) := by decide +kernel
theorem dX4_isNumber_29 : decode cX4_isNumber 29 = .ok (.getfield 9, 3) := by decide +kernel
theorem dX4_isNumber_32 : decode cX4_isNumber 32 = .ok (.getfield 93, 3) := by decide +kernel
theorem dX4_isNumber_35 : decode cX4_isNumber 35 = .ok (.iload_n 2, 1) := by decide +kernel
theorem dX4_isNumber_36 : decode cX4_isNumber 36 = .ok (.if_icmp .le 11, 3) := by decide +kernel
theorem dX4_isNumber_39 : decode cX4_isNumber 39 = .ok (.aload_n 0, 1) := by decide +kernel
theorem dX4_isNumber_40 : decode cX4_isNumber 40 = .ok (.iconst 2, 1) := by decide +kernel
theorem dX4_isNumber_41 : decode cX4_isNumber 41 = .ok (.invokevirtual 87, 3) := by decide +kernel
theorem dX4_isNumber_44 : decode cX4_isNumber 44 = .ok (.ifCond .eq 7, 3) := by decide +kernel
theorem dX4_isNumber_47 : decode cX4_isNumber 47 = .ok (.iconst 1, 1) := by decide +kernel
theorem dX4_isNumber_48 : decode cX4_isNumber 48 = .ok (.goto 4, 3) := by decide +kernel
theorem dX4_isNumber_51 : decode cX4_isNumber 51 = .ok (.iconst 0, 1) := by decide +kernel
theorem dX4_isNumber_52 : decode cX4_isNumber 52 = .ok (.ireturn, 1) := by decide +kernel
set_option maxRecDepth 20000 in
theorem ggX4_readNumber_X4_isNumber : GoodIn wsX4_readNumber wsX4_isNumber := goodIn_r _ [7, 1, 8, 2, 9, 10, 11, 6, 12, 13, 105, 106, 107, 108, 109, 110, 111, 112, 113, 114, 115] rfl (by decide +kernel)
set_option maxRecDepth 20000 in
theorem gX4_readNumber_X4_isNumber : GoodIn wsX4_readNumber (wsV RX4 96 RX4 yX4_isNumber wsX4_isNumber) := goodIn_app (goodIn_of _ (by decide +kernel)) ggX4_readNumber_X4_isNumber
set_option maxRecDepth 20000 in
theorem ggX4_readNumber_X8_set_ : GoodIn wsX4_readNumber wsX8_set_ := goodIn_r _ [18, 19, 20, 116, 117] rfl (by decide +kernel)
set_option maxRecDepth 20000 in
theorem gX4_readNumber_X8_set_ : GoodIn wsX4_readNumber (wsV RX4 100 RX8 yX8_set_ wsX8_set_) := goodIn_app (goodIn_of _ (by decide +kernel)) ggX4_readNumber_X8_set_
set_option maxRecDepth 20000 in
theorem ggX4_readNumber_X9_advance : GoodIn wsX4_readNumber wsX9_advance := goodIn_r _ [25, 26, 27, 28, 29, 30, 31, 32, 33, 34, 35, 24, 36, 37, 38, 39, 40, 41, 42, 43, 44, 45, 46, 47, 48, 49, 50, 51, 52, 53, 54, 55, 56, 57, 58, 59, 60, 61, 62, 63, 64, 65, 66, 67, 68, 69, 70, 71, 72, 73, 74, 75, 76, 77, 78, 79, 80, 81, 82, 83, 84, 85, 86, 87, 88, 89, 90, 91, 92, 93, 94, 95, 96, 97, 98, 99, 100, 101, 102, 103, 104, 108, 109, 110, 111, 112, 113, 114, 115] rfl (by decide +kernel)
set_option maxRecDepth 20000 in
theorem gX4_readNumber_X9_advance : GoodIn wsX4_readNumber (wsV RX4 90 RX9 yX9_advance wsX9_advance) := goodIn_app (goodIn_of _ (by decide +kernel)) ggX4_readNumber_X9_advance
theorem dX4_readNumber_0 : decode cX4_readNumber 0 = .ok (.aload_n 0, 1) := by decide +kernel
theorem dX4_readNumber_1 : decode cX4_readNumber 1 = .ok (.iload 4, 2) := by decide +kernel
theorem dX4_readNumber_3 : decode cX4_readNumber 3 = .ok (.iload 5, 2) := by decide +kernel
theorem dX4_readNumber_5 : decode cX4_readNumber 5 = .ok (.invokevirtual 96, 3) := by decide +kernel
theorem dX4_readNumber_8 : decode cX4_readNumber 8 = .ok (.ifCond .ne 5, 3) := by decide +kernel
theorem dX4_readNumber_11 : decode cX4_readNumber 11 = .ok (.iconst 0, 1) := by decide +kernel
theorem dX4_readNumber_12 : decode cX4_readNumber 12 = .ok (.ireturn, 1) := by decide +kernel
theorem dX4_readNumber_13 : decode cX4_readNumber 13 = .ok (.aload_n 1, 1) := by decide +kernel
theorem dX4_readNumber_14 : decode cX4_readNumber 14 = .ok (.iload_n 2, 1) := by decide +kernel
theorem dX4_readNumber_15 : decode cX4_readNumber 15 = .ok (.iload_n 3, 1) := by decide +kernel
theorem dX4_readNumber_16 : decode cX4_readNumber 16 = .ok (.aload_n 0, 1) := by decide +kernel
theorem dX4_readNumber_17 : decode cX4_readNumber 17 = .ok (.getfield 9, 3) := by decide +kernel
theorem dX4_readNumber_20 : decode cX4_readNumber 20 = .ok (.getfield 93, 3) := by decide +kernel
theorem dX4_readNumber_23 : decode cX4_readNumber 23 = .ok (.invokevirtual 100, 3) := by decide +kernel
theorem dX4_readNumber_26 : decode cX4_readNumber 26 = .ok (.aload_n 0, 1) := by decide +kernel
theorem dX4_readNumber_27 : decode cX4_readNumber 27 = .ok (.getfield 9, 3) := by decide +kernel
theorem dX4_readNumber_30 : decode cX4_readNumber 30 = .ok (.invokevirtual 90, 3) := by decide +kernel
theorem dX4_readNumber_33 : decode cX4_readNumber 33 = .ok (.iconst 1, 1) := by decide +kernel
theorem dX4_readNumber_34 : decode cX4_readNumber 34 = .ok (.ireturn, 1) := by decide +kernel
set_option maxRecDepth 20000 in
theorem ggX4_takeNumber_X8_set_ : GoodIn wsX4_takeNumber wsX8_set_ := goodIn_r _ [7, 8, 9, 105, 106] rfl (by decide +kernel)
set_option maxRecDepth 20000 in
theorem gX4_takeNumber_X8_set_ : GoodIn wsX4_takeNumber (wsV RX4 100 RX8 yX8_set_ wsX8_set_) := goodIn_app (goodIn_of _ (by decide +kernel)) ggX4_takeNumber_X8_set_
set_option maxRecDepth 20000 in
theorem ggX4_takeNumber_X9_advance : GoodIn wsX4_takeNumber wsX9_advance := goodIn_r _ [14, 15, 16, 17, 18, 19, 20, 21, 22, 23, 24, 13, 25, 26, 27, 28, 29, 30, 31, 32, 33, 34, 35, 36, 37, 38, 39, 40, 41, 42, 43, 44, 45, 46, 47, 48, 49, 50, 51, 52, 53, 54, 55, 56, 57, 58, 59, 60, 61, 62, 63, 64, 65, 66, 67, 68, 69, 70, 71, 72, 73, 74, 75, 76, 77, 78, 79, 80, 81, 82, 83, 84, 85, 86, 87, 88, 89, 90, 91, 92, 93, 97, 98, 99, 100, 101, 102, 103, 104] rfl (by decide +kernel)
set_option maxRecDepth 20000 in
theorem gX4_takeNumber_X9_advance : GoodIn wsX4_takeNumber (wsV RX4 90 RX9 yX9_advance wsX9_advance) := goodIn_app (goodIn_of _ (by decide +kernel)) ggX4_takeNumber_X9_advance
theorem dX4_takeNumber_0 : decode cX4_takeNumber 0 = .ok (.aload_n 1, 1) := by decide +kernel
theorem dX4_takeNumber_1 : decode cX4_takeNumber 1 = .ok (.iload_n 2, 1) := by decide +kernel
theorem dX4_takeNumber_2 : decode cX4_takeNumber 2 = .ok (.iload_n 3, 1) := by decide +kernel
theorem dX4_takeNumber_3 : decode cX4_takeNumber 3 = .ok (.aload_n 0, 1) := by decide +kernel
theorem dX4_takeNumber_4 : decode cX4_takeNumber 4 = .ok (.getfield 9, 3) := by decide +kernel
theorem dX4_takeNumber_7 : decode cX4_takeNumber 7 = .ok (.getfield 93, 3) := by decide +kernel
theorem dX4_takeNumber_10 : decode cX4_takeNumber 10 = .ok (.invokevirtual 100, 3) := by decide +kernel
theorem dX4_takeNumber_13 : decode cX4_takeNumber 13 = .ok (.aload_n 0, 1) := by decide +kernel
theorem dX4_takeNumber_14 : decode cX4_takeNumber 14 = .ok (.getfield 9, 3) := by decide +kernel
theorem dX4_takeNumber_17 : decode cX4_takeNumber 17 = .ok (.invokevirtual 90, 3) := by decide +kernel
theorem dX4_takeNumber_20 : decode cX4_takeNumber 20 = .ok (.iconst 1, 1) := by decide +kernel
theorem dX4_takeNumber_21 : decode cX4_takeNumber 21 = .ok (.ireturn, 1) := by decide +kernel
set_option maxRecDepth 20000 in
theorem ggX4_readPerson_X4_refuse : GoodIn wsX4_readPerson wsX4_refuse := goodIn_r _ [9, 10, 112, 113, 114] rfl (by decide +kernel)
set_option maxRecDepth 20000 in
theorem gX4_readPerson_X4_refuse : GoodIn wsX4_readPerson (wsV RX4 87 RX4 yX4_refuse wsX4_refuse) := goodIn_app (goodIn_of _ (by decide +kernel)) ggX4_readPerson_X4_refuse
set_option maxRecDepth 20000 in
theorem ggX4_readPerson_X9_advance : GoodIn wsX4_readPerson wsX9_advance := goodIn_r _ [15, 16, 17, 18, 19, 20, 21, 22, 23, 24, 25, 14, 26, 27, 28, 29, 30, 31, 32, 33, 34, 35, 36, 37, 38, 39, 40, 41, 42, 43, 44, 45, 46, 47, 48, 49, 50, 51, 52, 53, 54, 55, 56, 57, 58, 59, 60, 61, 62, 63, 64, 65, 66, 67, 68, 69, 70, 71, 72, 73, 74, 75, 76, 77, 78, 79, 80, 81, 82, 83, 84, 85, 86, 87, 88, 89, 90, 91, 92, 93, 94, 127, 128, 129, 130, 131, 132, 133, 134] rfl (by decide +kernel)
set_option maxRecDepth 20000 in
theorem gX4_readPerson_X9_advance : GoodIn wsX4_readPerson (wsV RX4 90 RX9 yX9_advance wsX9_advance) := goodIn_app (goodIn_of _ (by decide +kernel)) ggX4_readPerson_X9_advance
set_option maxRecDepth 20000 in
theorem ggX4_readPerson_X4_readNumber : GoodIn wsX4_readPerson wsX4_readNumber := goodIn_r _ [98, 3, 99, 100, 101, 102, 8, 103, 104, 5, 6, 7, 9, 10, 105, 106, 107, 108, 109, 110, 111, 11, 12, 13, 14, 15, 16, 17, 18, 19, 20, 21, 22, 23, 24, 25, 26, 27, 28, 29, 30, 31, 32, 33, 34, 35, 36, 37, 38, 39, 40, 41, 42, 43, 44, 45, 46, 47, 48, 49, 50, 51, 52, 53, 54, 55, 56, 57, 58, 59, 60, 61, 62, 63, 64, 65, 66, 67, 68, 69, 70, 71, 72, 73, 74, 75, 76, 77, 78, 79, 80, 81, 82, 83, 84, 85, 86, 87, 88, 89, 90, 91, 92, 93, 94, 112, 113, 114, 127, 128, 129, 130, 131, 132, 133, 134, 135, 136] rfl (by decide +kernel)
set_option maxRecDepth 20000 in
theorem gX4_readPerson_X4_readNumber : GoodIn wsX4_readPerson (wsV RX4 113 RX4 yX4_readNumber wsX4_readNumber) := goodIn_app (goodIn_of _ (by decide +kernel)) ggX4_readPerson_X4_readNumber
theorem dX4_readPerson_0 : decode cX4_readPerson 0 = .ok (.aload_n 0, 1) := by decide +kernel
theorem dX4_readPerson_1 : decode cX4_readPerson 1 = .ok (.getfield 15, 3) := by decide +kernel
theorem dX4_readPerson_4 : decode cX4_readPerson 4 = .ok (.getfield 106, 3) := by decide +kernel
theorem dX4_readPerson_7 : decode cX4_readPerson 7 = .ok (.istore_n 1, 1) := by decide +kernel
theorem dX4_readPerson_8 : decode cX4_readPerson 8 = .ok (.iload_n 1, 1) := by decide +kernel
theorem dX4_readPerson_9 : decode cX4_readPerson 9 = .ok (.iconst 4, 1) := by decide +kernel
theorem dX4_readPerson_10 : decode cX4_readPerson 10 = .ok (.if_icmp .lt 9, 3) := by decide +kernel
theorem dX4_readPerson_13 : decode cX4_readPerson 13 = .ok (.aload_n 0, 1) := by decide +kernel
theorem dX4_readPerson_14 : decode cX4_readPerson 14 = .ok (.iconst 2, 1) := by decide +kernel
theorem dX4_readPerson_15 : decode cX4_readPerson 15 = .ok (.invokevirtual 87, 3) := by decide +kernel
theorem dX4_readPerson_18 : decode cX4_readPerson 18 = .ok (.ireturn, 1) := by decide +kernel
theorem dX4_readPerson_19 : decode cX4_readPerson 19 = .ok (.aload_n 0, 1) := by decide +kernel
theorem dX4_readPerson_20 : decode cX4_readPerson 20 = .ok (.getfield 9, 3) := by decide +kernel
theorem dX4_readPerson_23 : decode cX4_readPerson 23 = .ok (.invokevirtual 90, 3) := by decide +kernel
theorem dX4_readPerson_26 : decode cX4_readPerson 26 = .ok (.aload_n 0, 1) := by decide +kernel
theorem dX4_readPerson_27 : decode cX4_readPerson 27 = .ok (.aload_n 0, 1) := by decide +kernel
theorem dX4_readPerson_28 : decode cX4_readPerson 28 = .ok (.getfield 15, 3) := by decide +kernel
theorem dX4_readPerson_31 : decode cX4_readPerson 31 = .ok (.getfield 109, 3) := by decide +kernel
theorem dX4_readPerson_34 : decode cX4_readPerson 34 = .ok (.iload_n 1, 1) := by decide +kernel
theorem dX4_readPerson_35 : decode cX4_readPerson 35 = .ok (.iconst 0, 1) := by decide +kernel
theorem dX4_readPerson_36 : decode cX4_readPerson 36 = .ok (.iconst 1, 1) := by decide +kernel
theorem dX4_readPerson_37 : decode cX4_readPerson 37 = .ok (.sipush 300, 3) := by decide +kernel
theorem dX4_readPerson_40 : decode cX4_readPerson 40 = .ok (.invokevirtual 113, 3) := by decide +kernel
theorem dX4_readPerson_43 : decode cX4_readPerson 43 = .ok (.ifCond .eq 45, 3) := by decide +kernel
theorem dX4_readPerson_46 : decode cX4_readPerson 46 = .ok (.aload_n 0, 1) := by decide +kernel
theorem dX4_readPerson_47 : decode cX4_readPerson 47 = .ok (.aload_n 0, 1) := by decide +kernel
theorem dX4_readPerson_48 : decode cX4_readPerson 48 = .ok (.getfield 15, 3) := by decide +kernel
theorem dX4_readPerson_51 : decode cX4_readPerson 51 = .ok (.getfield 109, 3) := by decide +kernel
theorem dX4_readPerson_54 : decode cX4_readPerson 54 = .ok (.iload_n 1, 1) := by decide +kernel
theorem dX4_readPerson_55 : decode cX4_readPerson 55 = .ok (.iconst 1, 1) := by decide +kernel
theorem dX4_readPerson_56 : decode cX4_readPerson 56 = .ok (.iconst 0, 1) := by decide +kernel
theorem dX4_readPerson_57 : decode cX4_readPerson 57 = .ok (.bipush 9, 2) := by decide +kernel
theorem dX4_readPerson_59 : decode cX4_readPerson 59 = .ok (.invokevirtual 113, 3) := by decide +kernel
theorem dX4_readPerson_62 : decode cX4_readPerson 62 = .ok (.ifCond .eq 26, 3) := by decide +kernel
theorem dX4_readPerson_65 : decode cX4_readPerson 65 = .ok (.aload_n 0, 1) := by decide +kernel
theorem dX4_readPerson_66 : decode cX4_readPerson 66 = .ok (.aload_n 0, 1) := by decide +kernel
theorem dX4_readPerson_67 : decode cX4_readPerson 67 = .ok (.getfield 15, 3) := by decide +kernel
theorem dX4_readPerson_70 : decode cX4_readPerson 70 = .ok (.getfield 109, 3) := by decide +kernel
theorem dX4_readPerson_73 : decode cX4_readPerson 73 = .ok (.iload_n 1, 1) := by decide +kernel
theorem dX4_readPerson_74 : decode cX4_readPerson 74 = .ok (.iconst 2, 1) := by decide +kernel
theorem dX4_readPerson_75 : decode cX4_readPerson 75 = .ok (.iconst 0, 1) := by decide +kernel
theorem dX4_readPerson_76 : decode cX4_readPerson 76 = .ok (.bipush 30, 2) := by decide +kernel
theorem dX4_readPerson_78 : decode cX4_readPerson 78 = .ok (.invokevirtual 113, 3) := by decide +kernel
theorem dX4_readPerson_81 : decode cX4_readPerson 81 = .ok (.ifCond .eq 7, 3) := by decide +kernel
theorem dX4_readPerson_84 : decode cX4_readPerson 84 = .ok (.iconst 1, 1) := by decide +kernel
theorem dX4_readPerson_85 : decode cX4_readPerson 85 = .ok (.goto 4, 3) := by decide +kernel
theorem dX4_readPerson_88 : decode cX4_readPerson 88 = .ok (.iconst 0, 1) := by decide +kernel
theorem dX4_readPerson_89 : decode cX4_readPerson 89 = .ok (.istore_n 2, 1) := by decide +kernel
theorem dX4_readPerson_90 : decode cX4_readPerson 90 = .ok (.aload_n 0, 1) := by decide +kernel
theorem dX4_readPerson_91 : decode cX4_readPerson 91 = .ok (.getfield 15, 3) := by decide +kernel
theorem dX4_readPerson_94 : decode cX4_readPerson 94 = .ok (.dup, 1) := by decide +kernel
theorem dX4_readPerson_95 : decode cX4_readPerson 95 = .ok (.getfield 106, 3) := by decide +kernel
theorem dX4_readPerson_98 : decode cX4_readPerson 98 = .ok (.iconst 1, 1) := by decide +kernel
theorem dX4_readPerson_99 : decode cX4_readPerson 99 = .ok (.iadd, 1) := by decide +kernel
theorem dX4_readPerson_100 : decode cX4_readPerson 100 = .ok (.putfield 106, 3) := by decide +kernel
theorem dX4_readPerson_103 : decode cX4_readPerson 103 = .ok (.iload_n 2, 1) := by decide +kernel
theorem dX4_readPerson_104 : decode cX4_readPerson 104 = .ok (.ireturn, 1) := by decide +kernel
set_option maxRecDepth 20000 in
theorem ggX4_readCase_X4_refuse : GoodIn wsX4_readCase wsX4_refuse := goodIn_r _ [12, 13, 123, 124, 125] rfl (by decide +kernel)
set_option maxRecDepth 20000 in
theorem gX4_readCase_X4_refuse : GoodIn wsX4_readCase (wsV RX4 87 RX4 yX4_refuse wsX4_refuse) := goodIn_app (goodIn_of _ (by decide +kernel)) ggX4_readCase_X4_refuse
set_option maxRecDepth 20000 in
theorem ggX4_readCase_X9_advance : GoodIn wsX4_readCase wsX9_advance := goodIn_r _ [18, 19, 20, 21, 22, 23, 24, 25, 26, 27, 28, 17, 29, 30, 31, 32, 33, 34, 35, 36, 37, 38, 39, 40, 41, 42, 43, 44, 45, 46, 47, 48, 49, 50, 51, 52, 53, 54, 55, 56, 57, 58, 59, 60, 61, 62, 63, 64, 65, 66, 67, 68, 69, 70, 71, 72, 73, 74, 75, 76, 77, 78, 79, 80, 81, 82, 83, 84, 85, 86, 87, 88, 89, 90, 91, 92, 93, 94, 95, 96, 97, 138, 139, 140, 141, 142, 143, 144, 145] rfl (by decide +kernel)
set_option maxRecDepth 20000 in
theorem gX4_readCase_X9_advance : GoodIn wsX4_readCase (wsV RX4 90 RX9 yX9_advance wsX9_advance) := goodIn_app (goodIn_of _ (by decide +kernel)) ggX4_readCase_X9_advance
set_option maxRecDepth 20000 in
theorem ggX4_readCase_X4_isTold : GoodIn wsX4_readCase wsX4_isTold := goodIn_r _ [101, 3, 102, 103, 104, 105, 11, 106, 107, 8, 9, 10, 12, 13, 123, 124, 125, 138, 139, 140, 141, 142, 143, 144, 145] rfl (by decide +kernel)
set_option maxRecDepth 20000 in
theorem gX4_readCase_X4_isTold : GoodIn wsX4_readCase (wsV RX4 120 RX4 yX4_isTold wsX4_isTold) := goodIn_app (goodIn_of _ (by decide +kernel)) ggX4_readCase_X4_isTold
set_option maxRecDepth 20000 in
theorem ggX4_readCase_X4_takeNumber : GoodIn wsX4_readCase wsX4_takeNumber := goodIn_r _ [111, 3, 102, 112, 113, 114, 115, 116, 117, 118, 14, 15, 16, 17, 18, 19, 20, 21, 22, 23, 24, 25, 26, 27, 28, 29, 30, 31, 32, 33, 34, 35, 36, 37, 38, 39, 40, 41, 42, 43, 44, 45, 46, 47, 48, 49, 50, 51, 52, 53, 54, 55, 56, 57, 58, 59, 60, 61, 62, 63, 64, 65, 66, 67, 68, 69, 70, 71, 72, 73, 74, 75, 76, 77, 78, 79, 80, 81, 82, 83, 84, 85, 86, 87, 88, 89, 90, 91, 92, 93, 94, 95, 96, 97, 123, 124, 125, 138, 139, 140, 141, 142, 143, 144, 145, 146, 147] rfl (by decide +kernel)
set_option maxRecDepth 20000 in
theorem gX4_readCase_X4_takeNumber : GoodIn wsX4_readCase (wsV RX4 126 RX4 yX4_takeNumber wsX4_takeNumber) := goodIn_app (goodIn_of _ (by decide +kernel)) ggX4_readCase_X4_takeNumber
set_option maxRecDepth 20000 in
theorem ggX4_readCase_X4_readNumber : GoodIn wsX4_readCase wsX4_readNumber := goodIn_r _ [122, 3, 102, 103, 104, 105, 11, 106, 107, 8, 9, 10, 12, 13, 112, 113, 114, 115, 116, 117, 118, 14, 15, 16, 17, 18, 19, 20, 21, 22, 23, 24, 25, 26, 27, 28, 29, 30, 31, 32, 33, 34, 35, 36, 37, 38, 39, 40, 41, 42, 43, 44, 45, 46, 47, 48, 49, 50, 51, 52, 53, 54, 55, 56, 57, 58, 59, 60, 61, 62, 63, 64, 65, 66, 67, 68, 69, 70, 71, 72, 73, 74, 75, 76, 77, 78, 79, 80, 81, 82, 83, 84, 85, 86, 87, 88, 89, 90, 91, 92, 93, 94, 95, 96, 97, 123, 124, 125, 138, 139, 140, 141, 142, 143, 144, 145, 146, 147] rfl (by decide +kernel)
set_option maxRecDepth 20000 in
theorem gX4_readCase_X4_readNumber : GoodIn wsX4_readCase (wsV RX4 113 RX4 yX4_readNumber wsX4_readNumber) := goodIn_app (goodIn_of _ (by decide +kernel)) ggX4_readCase_X4_readNumber
set_option maxRecDepth 20000 in
theorem ggX4_readCase_X8_set_ : GoodIn wsX4_readCase wsX8_set_ := goodIn_r _ [116, 117, 118, 146, 147] rfl (by decide +kernel)
set_option maxRecDepth 20000 in
theorem gX4_readCase_X8_set_ : GoodIn wsX4_readCase (wsV RX4 100 RX8 yX8_set_ wsX8_set_) := goodIn_app (goodIn_of _ (by decide +kernel)) ggX4_readCase_X8_set_
theorem dX4_readCase_0 : decode cX4_readCase 0 = .ok (.aload_n 0, 1) := by decide +kernel
theorem dX4_readCase_1 : decode cX4_readCase 1 = .ok (.getfield 15, 3) := by decide +kernel
theorem dX4_readCase_4 : decode cX4_readCase 4 = .ok (.getfield 117, 3) := by decide +kernel
theorem dX4_readCase_7 : decode cX4_readCase 7 = .ok (.istore_n 1, 1) := by decide +kernel
theorem dX4_readCase_8 : decode cX4_readCase 8 = .ok (.iload_n 1, 1) := by decide +kernel
theorem dX4_readCase_9 : decode cX4_readCase 9 = .ok (.iconst 5, 1) := by decide +kernel
theorem dX4_readCase_10 : decode cX4_readCase 10 = .ok (.if_icmp .lt 9, 3) := by decide +kernel
theorem dX4_readCase_13 : decode cX4_readCase 13 = .ok (.aload_n 0, 1) := by decide +kernel
theorem dX4_readCase_14 : decode cX4_readCase 14 = .ok (.iconst 2, 1) := by decide +kernel
theorem dX4_readCase_15 : decode cX4_readCase 15 = .ok (.invokevirtual 87, 3) := by decide +kernel
theorem dX4_readCase_18 : decode cX4_readCase 18 = .ok (.ireturn, 1) := by decide +kernel
theorem dX4_readCase_19 : decode cX4_readCase 19 = .ok (.aload_n 0, 1) := by decide +kernel
theorem dX4_readCase_20 : decode cX4_readCase 20 = .ok (.getfield 9, 3) := by decide +kernel
theorem dX4_readCase_23 : decode cX4_readCase 23 = .ok (.invokevirtual 90, 3) := by decide +kernel
theorem dX4_readCase_26 : decode cX4_readCase 26 = .ok (.aload_n 0, 1) := by decide +kernel
theorem dX4_readCase_27 : decode cX4_readCase 27 = .ok (.aload_n 0, 1) := by decide +kernel
theorem dX4_readCase_28 : decode cX4_readCase 28 = .ok (.getfield 15, 3) := by decide +kernel
theorem dX4_readCase_31 : decode cX4_readCase 31 = .ok (.getfield 106, 3) := by decide +kernel
theorem dX4_readCase_34 : decode cX4_readCase 34 = .ok (.invokevirtual 120, 3) := by decide +kernel
theorem dX4_readCase_37 : decode cX4_readCase 37 = .ok (.ifCond .eq 81, 3) := by decide +kernel
theorem dX4_readCase_40 : decode cX4_readCase 40 = .ok (.aload_n 0, 1) := by decide +kernel
theorem dX4_readCase_41 : decode cX4_readCase 41 = .ok (.aload_n 0, 1) := by decide +kernel
theorem dX4_readCase_42 : decode cX4_readCase 42 = .ok (.getfield 15, 3) := by decide +kernel
theorem dX4_readCase_45 : decode cX4_readCase 45 = .ok (.getfield 123, 3) := by decide +kernel
theorem dX4_readCase_48 : decode cX4_readCase 48 = .ok (.iload_n 1, 1) := by decide +kernel
theorem dX4_readCase_49 : decode cX4_readCase 49 = .ok (.iconst 0, 1) := by decide +kernel
theorem dX4_readCase_50 : decode cX4_readCase 50 = .ok (.invokevirtual 126, 3) := by decide +kernel
theorem dX4_readCase_53 : decode cX4_readCase 53 = .ok (.ifCond .eq 65, 3) := by decide +kernel
theorem dX4_readCase_56 : decode cX4_readCase 56 = .ok (.aload_n 0, 1) := by decide +kernel
theorem dX4_readCase_57 : decode cX4_readCase 57 = .ok (.aload_n 0, 1) := by decide +kernel
theorem dX4_readCase_58 : decode cX4_readCase 58 = .ok (.getfield 15, 3) := by decide +kernel
theorem dX4_readCase_61 : decode cX4_readCase 61 = .ok (.getfield 123, 3) := by decide +kernel
theorem dX4_readCase_64 : decode cX4_readCase 64 = .ok (.iload_n 1, 1) := by decide +kernel
theorem dX4_readCase_65 : decode cX4_readCase 65 = .ok (.iconst 1, 1) := by decide +kernel
theorem dX4_readCase_66 : decode cX4_readCase 66 = .ok (.iconst 0, 1) := by decide +kernel
theorem dX4_readCase_67 : decode cX4_readCase 67 = .ok (.sipush 200, 3) := by decide +kernel
theorem dX4_readCase_70 : decode cX4_readCase 70 = .ok (.invokevirtual 113, 3) := by decide +kernel
theorem dX4_readCase_73 : decode cX4_readCase 73 = .ok (.ifCond .eq 45, 3) := by decide +kernel
theorem dX4_readCase_76 : decode cX4_readCase 76 = .ok (.aload_n 0, 1) := by decide +kernel
theorem dX4_readCase_77 : decode cX4_readCase 77 = .ok (.aload_n 0, 1) := by decide +kernel
theorem dX4_readCase_78 : decode cX4_readCase 78 = .ok (.getfield 15, 3) := by decide +kernel
theorem dX4_readCase_81 : decode cX4_readCase 81 = .ok (.getfield 123, 3) := by decide +kernel
theorem dX4_readCase_84 : decode cX4_readCase 84 = .ok (.iload_n 1, 1) := by decide +kernel
theorem dX4_readCase_85 : decode cX4_readCase 85 = .ok (.iconst 2, 1) := by decide +kernel
theorem dX4_readCase_86 : decode cX4_readCase 86 = .ok (.iconst 0, 1) := by decide +kernel
theorem dX4_readCase_87 : decode cX4_readCase 87 = .ok (.bipush 60, 2) := by decide +kernel
theorem dX4_readCase_89 : decode cX4_readCase 89 = .ok (.invokevirtual 113, 3) := by decide +kernel
theorem dX4_readCase_92 : decode cX4_readCase 92 = .ok (.ifCond .eq 26, 3) := by decide +kernel
theorem dX4_readCase_95 : decode cX4_readCase 95 = .ok (.aload_n 0, 1) := by decide +kernel
theorem dX4_readCase_96 : decode cX4_readCase 96 = .ok (.aload_n 0, 1) := by decide +kernel
theorem dX4_readCase_97 : decode cX4_readCase 97 = .ok (.getfield 15, 3) := by decide +kernel
theorem dX4_readCase_100 : decode cX4_readCase 100 = .ok (.getfield 123, 3) := by decide +kernel
theorem dX4_readCase_103 : decode cX4_readCase 103 = .ok (.iload_n 1, 1) := by decide +kernel
theorem dX4_readCase_104 : decode cX4_readCase 104 = .ok (.iconst 3, 1) := by decide +kernel
theorem dX4_readCase_105 : decode cX4_readCase 105 = .ok (.iconst 0, 1) := by decide +kernel
theorem dX4_readCase_106 : decode cX4_readCase 106 = .ok (.bipush 99, 2) := by decide +kernel
theorem dX4_readCase_108 : decode cX4_readCase 108 = .ok (.invokevirtual 113, 3) := by decide +kernel
theorem dX4_readCase_111 : decode cX4_readCase 111 = .ok (.ifCond .eq 7, 3) := by decide +kernel
theorem dX4_readCase_114 : decode cX4_readCase 114 = .ok (.iconst 1, 1) := by decide +kernel
theorem dX4_readCase_115 : decode cX4_readCase 115 = .ok (.goto 4, 3) := by decide +kernel
theorem dX4_readCase_118 : decode cX4_readCase 118 = .ok (.iconst 0, 1) := by decide +kernel
theorem dX4_readCase_119 : decode cX4_readCase 119 = .ok (.istore_n 2, 1) := by decide +kernel
theorem dX4_readCase_120 : decode cX4_readCase 120 = .ok (.iload_n 2, 1) := by decide +kernel
theorem dX4_readCase_121 : decode cX4_readCase 121 = .ok (.ifCond .eq 20, 3) := by decide +kernel
theorem dX4_readCase_124 : decode cX4_readCase 124 = .ok (.aload_n 0, 1) := by decide +kernel
theorem dX4_readCase_125 : decode cX4_readCase 125 = .ok (.getfield 9, 3) := by decide +kernel
theorem dX4_readCase_128 : decode cX4_readCase 128 = .ok (.getfield 44, 3) := by decide +kernel
theorem dX4_readCase_131 : decode cX4_readCase 131 = .ok (.getstatic 130, 3) := by decide +kernel
theorem dX4_readCase_134 : decode cX4_readCase 134 = .ok (.if_acmp .ne 7, 3) := by decide +kernel
theorem dX4_readCase_137 : decode cX4_readCase 137 = .ok (.iconst 1, 1) := by decide +kernel
theorem dX4_readCase_138 : decode cX4_readCase 138 = .ok (.goto 4, 3) := by decide +kernel
theorem dX4_readCase_141 : decode cX4_readCase 141 = .ok (.iconst 0, 1) := by decide +kernel
theorem dX4_readCase_142 : decode cX4_readCase 142 = .ok (.istore_n 3, 1) := by decide +kernel
theorem dX4_readCase_143 : decode cX4_readCase 143 = .ok (.aload_n 0, 1) := by decide +kernel
theorem dX4_readCase_144 : decode cX4_readCase 144 = .ok (.getfield 15, 3) := by decide +kernel
theorem dX4_readCase_147 : decode cX4_readCase 147 = .ok (.getfield 123, 3) := by decide +kernel
theorem dX4_readCase_150 : decode cX4_readCase 150 = .ok (.iload_n 1, 1) := by decide +kernel
theorem dX4_readCase_151 : decode cX4_readCase 151 = .ok (.iconst 4, 1) := by decide +kernel
theorem dX4_readCase_152 : decode cX4_readCase 152 = .ok (.iload_n 3, 1) := by decide +kernel
theorem dX4_readCase_153 : decode cX4_readCase 153 = .ok (.ifCond .eq 7, 3) := by decide +kernel
theorem dX4_readCase_156 : decode cX4_readCase 156 = .ok (.iconst 1, 1) := by decide +kernel
theorem dX4_readCase_157 : decode cX4_readCase 157 = .ok (.goto 4, 3) := by decide +kernel
theorem dX4_readCase_160 : decode cX4_readCase 160 = .ok (.iconst 0, 1) := by decide +kernel
theorem dX4_readCase_161 : decode cX4_readCase 161 = .ok (.invokevirtual 100, 3) := by decide +kernel
theorem dX4_readCase_164 : decode cX4_readCase 164 = .ok (.iload_n 3, 1) := by decide +kernel
theorem dX4_readCase_165 : decode cX4_readCase 165 = .ok (.ifCond .eq 10, 3) := by decide +kernel
theorem dX4_readCase_168 : decode cX4_readCase 168 = .ok (.aload_n 0, 1) := by decide +kernel
theorem dX4_readCase_169 : decode cX4_readCase 169 = .ok (.getfield 9, 3) := by decide +kernel
theorem dX4_readCase_172 : decode cX4_readCase 172 = .ok (.invokevirtual 90, 3) := by decide +kernel
theorem dX4_readCase_175 : decode cX4_readCase 175 = .ok (.aload_n 0, 1) := by decide +kernel
theorem dX4_readCase_176 : decode cX4_readCase 176 = .ok (.getfield 15, 3) := by decide +kernel
theorem dX4_readCase_179 : decode cX4_readCase 179 = .ok (.dup, 1) := by decide +kernel
theorem dX4_readCase_180 : decode cX4_readCase 180 = .ok (.getfield 117, 3) := by decide +kernel
theorem dX4_readCase_183 : decode cX4_readCase 183 = .ok (.iconst 1, 1) := by decide +kernel
theorem dX4_readCase_184 : decode cX4_readCase 184 = .ok (.iadd, 1) := by decide +kernel
theorem dX4_readCase_185 : decode cX4_readCase 185 = .ok (.putfield 117, 3) := by decide +kernel
theorem dX4_readCase_188 : decode cX4_readCase 188 = .ok (.iload_n 2, 1) := by decide +kernel
theorem dX4_readCase_189 : decode cX4_readCase 189 = .ok (.ireturn, 1) := by decide +kernel
set_option maxRecDepth 20000 in
theorem ggX4_isTold_X4_isNumber : GoodIn wsX4_isTold wsX4_isNumber := goodIn_r _ [7, 1, 8, 2, 9, 10, 11, 6, 12, 13, 14, 15, 16, 17, 18, 19, 20, 21, 22, 23, 24] rfl (by decide +kernel)
set_option maxRecDepth 20000 in
theorem gX4_isTold_X4_isNumber : GoodIn wsX4_isTold (wsV RX4 96 RX4 yX4_isNumber wsX4_isNumber) := goodIn_app (goodIn_of _ (by decide +kernel)) ggX4_isTold_X4_isNumber
set_option maxRecDepth 20000 in
theorem ggX4_isTold_X4_refuse : GoodIn wsX4_isTold wsX4_refuse := goodIn_r _ [12, 13, 14, 15, 16] rfl (by decide +kernel)
set_option maxRecDepth 20000 in
theorem gX4_isTold_X4_refuse : GoodIn wsX4_isTold (wsV RX4 87 RX4 yX4_refuse wsX4_refuse) := goodIn_app (goodIn_of _ (by decide +kernel)) ggX4_isTold_X4_refuse
theorem dX4_isTold_0 : decode cX4_isTold 0 = .ok (.aload_n 0, 1) := by decide +kernel
theorem dX4_isTold_1 : decode cX4_isTold 1 = .ok (.iconst 0, 1) := by decide +kernel
theorem dX4_isTold_2 : decode cX4_isTold 2 = .ok (.sipush 9999, 3) := by decide +kernel
theorem dX4_isTold_5 : decode cX4_isTold 5 = .ok (.invokevirtual 96, 3) := by decide +kernel
theorem dX4_isTold_8 : decode cX4_isTold 8 = .ok (.ifCond .eq 26, 3) := by decide +kernel
theorem dX4_isTold_11 : decode cX4_isTold 11 = .ok (.aload_n 0, 1) := by decide +kernel
theorem dX4_isTold_12 : decode cX4_isTold 12 = .ok (.getfield 9, 3) := by decide +kernel
theorem dX4_isTold_15 : decode cX4_isTold 15 = .ok (.getfield 93, 3) := by decide +kernel
theorem dX4_isTold_18 : decode cX4_isTold 18 = .ok (.iload_n 1, 1) := by decide +kernel
theorem dX4_isTold_19 : decode cX4_isTold 19 = .ok (.if_icmp .lt 11, 3) := by decide +kernel
theorem dX4_isTold_22 : decode cX4_isTold 22 = .ok (.aload_n 0, 1) := by decide +kernel
theorem dX4_isTold_23 : decode cX4_isTold 23 = .ok (.iconst 3, 1) := by decide +kernel
theorem dX4_isTold_24 : decode cX4_isTold 24 = .ok (.invokevirtual 87, 3) := by decide +kernel
theorem dX4_isTold_27 : decode cX4_isTold 27 = .ok (.ifCond .eq 7, 3) := by decide +kernel
theorem dX4_isTold_30 : decode cX4_isTold 30 = .ok (.iconst 1, 1) := by decide +kernel
theorem dX4_isTold_31 : decode cX4_isTold 31 = .ok (.goto 4, 3) := by decide +kernel
theorem dX4_isTold_34 : decode cX4_isTold 34 = .ok (.iconst 0, 1) := by decide +kernel
theorem dX4_isTold_35 : decode cX4_isTold 35 = .ok (.ireturn, 1) := by decide +kernel
set_option maxRecDepth 20000 in
theorem ggX4_readThing_X4_refuse : GoodIn wsX4_readThing wsX4_refuse := goodIn_r _ [15, 16, 134, 135, 136] rfl (by decide +kernel)
set_option maxRecDepth 20000 in
theorem gX4_readThing_X4_refuse : GoodIn wsX4_readThing (wsV RX4 87 RX4 yX4_refuse wsX4_refuse) := goodIn_app (goodIn_of _ (by decide +kernel)) ggX4_readThing_X4_refuse
set_option maxRecDepth 20000 in
theorem ggX4_readThing_X9_advance : GoodIn wsX4_readThing wsX9_advance := goodIn_r _ [21, 22, 23, 24, 25, 26, 27, 28, 29, 30, 31, 20, 32, 33, 34, 35, 36, 37, 38, 39, 40, 41, 42, 43, 44, 45, 46, 47, 48, 49, 50, 51, 52, 53, 54, 55, 56, 57, 58, 59, 60, 61, 62, 63, 64, 65, 66, 67, 68, 69, 70, 71, 72, 73, 74, 75, 76, 77, 78, 79, 80, 81, 82, 83, 84, 85, 86, 87, 88, 89, 90, 91, 92, 93, 94, 95, 96, 97, 98, 99, 100, 149, 150, 151, 152, 153, 154, 155, 156] rfl (by decide +kernel)
set_option maxRecDepth 20000 in
theorem gX4_readThing_X9_advance : GoodIn wsX4_readThing (wsV RX4 90 RX9 yX9_advance wsX9_advance) := goodIn_app (goodIn_of _ (by decide +kernel)) ggX4_readThing_X9_advance
set_option maxRecDepth 20000 in
theorem ggX4_readThing_X8_set_ : GoodIn wsX4_readThing wsX8_set_ := goodIn_r _ [105, 106, 107, 157, 158] rfl (by decide +kernel)
set_option maxRecDepth 20000 in
theorem gX4_readThing_X8_set_ : GoodIn wsX4_readThing (wsV RX4 100 RX8 yX8_set_ wsX8_set_) := goodIn_app (goodIn_of _ (by decide +kernel)) ggX4_readThing_X8_set_
set_option maxRecDepth 20000 in
theorem ggX4_readThing_X4_readNumber : GoodIn wsX4_readThing wsX4_readNumber := goodIn_r _ [111, 3, 10, 112, 113, 114, 14, 115, 116, 11, 12, 13, 15, 16, 101, 102, 103, 104, 105, 106, 107, 17, 18, 19, 20, 21, 22, 23, 24, 25, 26, 27, 28, 29, 30, 31, 32, 33, 34, 35, 36, 37, 38, 39, 40, 41, 42, 43, 44, 45, 46, 47, 48, 49, 50, 51, 52, 53, 54, 55, 56, 57, 58, 59, 60, 61, 62, 63, 64, 65, 66, 67, 68, 69, 70, 71, 72, 73, 74, 75, 76, 77, 78, 79, 80, 81, 82, 83, 84, 85, 86, 87, 88, 89, 90, 91, 92, 93, 94, 95, 96, 97, 98, 99, 100, 134, 135, 136, 149, 150, 151, 152, 153, 154, 155, 156, 157, 158] rfl (by decide +kernel)
set_option maxRecDepth 20000 in
theorem gX4_readThing_X4_readNumber : GoodIn wsX4_readThing (wsV RX4 113 RX4 yX4_readNumber wsX4_readNumber) := goodIn_app (goodIn_of _ (by decide +kernel)) ggX4_readThing_X4_readNumber
set_option maxRecDepth 20000 in
theorem ggX4_readThing_X8_at_ : GoodIn wsX4_readThing wsX8_at_ := goodIn_r _ [120, 106, 107, 157, 158] rfl (by decide +kernel)
set_option maxRecDepth 20000 in
theorem gX4_readThing_X8_at_ : GoodIn wsX4_readThing (wsV RX4 139 RX8 yX8_at_ wsX8_at_) := goodIn_app (goodIn_of _ (by decide +kernel)) ggX4_readThing_X8_at_
set_option maxRecDepth 20000 in
theorem ggX4_readThing_X4_isTold : GoodIn wsX4_readThing wsX4_isTold := goodIn_r _ [124, 3, 10, 112, 113, 114, 14, 115, 116, 11, 12, 13, 15, 16, 134, 135, 136, 149, 150, 151, 152, 153, 154, 155, 156] rfl (by decide +kernel)
set_option maxRecDepth 20000 in
theorem gX4_readThing_X4_isTold : GoodIn wsX4_readThing (wsV RX4 120 RX4 yX4_isTold wsX4_isTold) := goodIn_app (goodIn_of _ (by decide +kernel)) ggX4_readThing_X4_isTold
set_option maxRecDepth 20000 in
theorem ggX4_readThing_X4_isRoomFor : GoodIn wsX4_readThing wsX4_isRoomFor := goodIn_r _ [128, 1, 4, 129, 117, 118, 119, 104, 120, 106, 107, 11, 12, 13, 14, 15, 16, 134, 135, 136, 137, 138, 139, 140, 141, 142, 143, 144, 145, 146, 147, 148, 157, 158] rfl (by decide +kernel)
set_option maxRecDepth 20000 in
theorem gX4_readThing_X4_isRoomFor : GoodIn wsX4_readThing (wsV RX4 148 RX4 yX4_isRoomFor wsX4_isRoomFor) := goodIn_app (goodIn_of _ (by decide +kernel)) ggX4_readThing_X4_isRoomFor
set_option maxRecDepth 20000 in
theorem ggX4_readThing_X4_takeNumber : GoodIn wsX4_readThing wsX4_takeNumber := goodIn_r _ [133, 3, 10, 101, 102, 103, 104, 105, 106, 107, 17, 18, 19, 20, 21, 22, 23, 24, 25, 26, 27, 28, 29, 30, 31, 32, 33, 34, 35, 36, 37, 38, 39, 40, 41, 42, 43, 44, 45, 46, 47, 48, 49, 50, 51, 52, 53, 54, 55, 56, 57, 58, 59, 60, 61, 62, 63, 64, 65, 66, 67, 68, 69, 70, 71, 72, 73, 74, 75, 76, 77, 78, 79, 80, 81, 82, 83, 84, 85, 86, 87, 88, 89, 90, 91, 92, 93, 94, 95, 96, 97, 98, 99, 100, 134, 135, 136, 149, 150, 151, 152, 153, 154, 155, 156, 157, 158] rfl (by decide +kernel)
set_option maxRecDepth 20000 in
theorem gX4_readThing_X4_takeNumber : GoodIn wsX4_readThing (wsV RX4 126 RX4 yX4_takeNumber wsX4_takeNumber) := goodIn_app (goodIn_of _ (by decide +kernel)) ggX4_readThing_X4_takeNumber
theorem dX4_readThing_0 : decode cX4_readThing 0 = .ok (.aload_n 0, 1) := by decide +kernel
theorem dX4_readThing_1 : decode cX4_readThing 1 = .ok (.getfield 15, 3) := by decide +kernel
theorem dX4_readThing_4 : decode cX4_readThing 4 = .ok (.getfield 133, 3) := by decide +kernel
theorem dX4_readThing_7 : decode cX4_readThing 7 = .ok (.istore_n 2, 1) := by decide +kernel
theorem dX4_readThing_8 : decode cX4_readThing 8 = .ok (.iload_n 2, 1) := by decide +kernel
theorem dX4_readThing_9 : decode cX4_readThing 9 = .ok (.bipush 12, 2) := by decide +kernel
theorem dX4_readThing_11 : decode cX4_readThing 11 = .ok (.if_icmp .lt 9, 3) := by decide +kernel
theorem dX4_readThing_14 : decode cX4_readThing 14 = .ok (.aload_n 0, 1) := by decide +kernel
theorem dX4_readThing_15 : decode cX4_readThing 15 = .ok (.iconst 2, 1) := by decide +kernel
theorem dX4_readThing_16 : decode cX4_readThing 16 = .ok (.invokevirtual 87, 3) := by decide +kernel
theorem dX4_readThing_19 : decode cX4_readThing 19 = .ok (.ireturn, 1) := by decide +kernel
theorem dX4_readThing_20 : decode cX4_readThing 20 = .ok (.aload_n 0, 1) := by decide +kernel
theorem dX4_readThing_21 : decode cX4_readThing 21 = .ok (.getfield 9, 3) := by decide +kernel
theorem dX4_readThing_24 : decode cX4_readThing 24 = .ok (.invokevirtual 90, 3) := by decide +kernel
theorem dX4_readThing_27 : decode cX4_readThing 27 = .ok (.aload_n 0, 1) := by decide +kernel
theorem dX4_readThing_28 : decode cX4_readThing 28 = .ok (.getfield 15, 3) := by decide +kernel
theorem dX4_readThing_31 : decode cX4_readThing 31 = .ok (.getfield 136, 3) := by decide +kernel
theorem dX4_readThing_34 : decode cX4_readThing 34 = .ok (.iload_n 2, 1) := by decide +kernel
theorem dX4_readThing_35 : decode cX4_readThing 35 = .ok (.iconst 0, 1) := by decide +kernel
theorem dX4_readThing_36 : decode cX4_readThing 36 = .ok (.iload_n 1, 1) := by decide +kernel
theorem dX4_readThing_37 : decode cX4_readThing 37 = .ok (.invokevirtual 100, 3) := by decide +kernel
theorem dX4_readThing_40 : decode cX4_readThing 40 = .ok (.aload_n 0, 1) := by decide +kernel
theorem dX4_readThing_41 : decode cX4_readThing 41 = .ok (.getfield 15, 3) := by decide +kernel
theorem dX4_readThing_44 : decode cX4_readThing 44 = .ok (.getfield 136, 3) := by decide +kernel
theorem dX4_readThing_47 : decode cX4_readThing 47 = .ok (.iload_n 2, 1) := by decide +kernel
theorem dX4_readThing_48 : decode cX4_readThing 48 = .ok (.bipush 6, 2) := by decide +kernel
theorem dX4_readThing_50 : decode cX4_readThing 50 = .ok (.iconst 0, 1) := by decide +kernel
theorem dX4_readThing_51 : decode cX4_readThing 51 = .ok (.invokevirtual 100, 3) := by decide +kernel
theorem dX4_readThing_54 : decode cX4_readThing 54 = .ok (.aload_n 0, 1) := by decide +kernel
theorem dX4_readThing_55 : decode cX4_readThing 55 = .ok (.aload_n 0, 1) := by decide +kernel
theorem dX4_readThing_56 : decode cX4_readThing 56 = .ok (.getfield 15, 3) := by decide +kernel
theorem dX4_readThing_59 : decode cX4_readThing 59 = .ok (.getfield 136, 3) := by decide +kernel
theorem dX4_readThing_62 : decode cX4_readThing 62 = .ok (.iload_n 2, 1) := by decide +kernel
theorem dX4_readThing_63 : decode cX4_readThing 63 = .ok (.iconst 1, 1) := by decide +kernel
theorem dX4_readThing_64 : decode cX4_readThing 64 = .ok (.iconst 0, 1) := by decide +kernel
theorem dX4_readThing_65 : decode cX4_readThing 65 = .ok (.bipush 60, 2) := by decide +kernel
theorem dX4_readThing_67 : decode cX4_readThing 67 = .ok (.invokevirtual 113, 3) := by decide +kernel
theorem dX4_readThing_70 : decode cX4_readThing 70 = .ok (.ifCond .eq 150, 3) := by decide +kernel
theorem dX4_readThing_73 : decode cX4_readThing 73 = .ok (.aload_n 0, 1) := by decide +kernel
theorem dX4_readThing_74 : decode cX4_readThing 74 = .ok (.aload_n 0, 1) := by decide +kernel
theorem dX4_readThing_75 : decode cX4_readThing 75 = .ok (.getfield 15, 3) := by decide +kernel
theorem dX4_readThing_78 : decode cX4_readThing 78 = .ok (.getfield 136, 3) := by decide +kernel
theorem dX4_readThing_81 : decode cX4_readThing 81 = .ok (.iload_n 2, 1) := by decide +kernel
theorem dX4_readThing_82 : decode cX4_readThing 82 = .ok (.iconst 2, 1) := by decide +kernel
theorem dX4_readThing_83 : decode cX4_readThing 83 = .ok (.iconst 0, 1) := by decide +kernel
theorem dX4_readThing_84 : decode cX4_readThing 84 = .ok (.bipush 9, 2) := by decide +kernel
theorem dX4_readThing_86 : decode cX4_readThing 86 = .ok (.aload_n 0, 1) := by decide +kernel
theorem dX4_readThing_87 : decode cX4_readThing 87 = .ok (.getfield 15, 3) := by decide +kernel
theorem dX4_readThing_90 : decode cX4_readThing 90 = .ok (.getfield 136, 3) := by decide +kernel
theorem dX4_readThing_93 : decode cX4_readThing 93 = .ok (.iload_n 2, 1) := by decide +kernel
theorem dX4_readThing_94 : decode cX4_readThing 94 = .ok (.iconst 1, 1) := by decide +kernel
theorem dX4_readThing_95 : decode cX4_readThing 95 = .ok (.invokevirtual 139, 3) := by decide +kernel
theorem dX4_readThing_98 : decode cX4_readThing 98 = .ok (.invokestatic 143, 3) := by decide +kernel
theorem dX4_readThing_101 : decode cX4_readThing 101 = .ok (.invokevirtual 113, 3) := by decide +kernel
theorem dX4_readThing_104 : decode cX4_readThing 104 = .ok (.ifCond .eq 116, 3) := by decide +kernel
theorem dX4_readThing_107 : decode cX4_readThing 107 = .ok (.aload_n 0, 1) := by decide +kernel
theorem dX4_readThing_108 : decode cX4_readThing 108 = .ok (.aload_n 0, 1) := by decide +kernel
theorem dX4_readThing_109 : decode cX4_readThing 109 = .ok (.getfield 15, 3) := by decide +kernel
theorem dX4_readThing_112 : decode cX4_readThing 112 = .ok (.getfield 136, 3) := by decide +kernel
theorem dX4_readThing_115 : decode cX4_readThing 115 = .ok (.iload_n 2, 1) := by decide +kernel
theorem dX4_readThing_116 : decode cX4_readThing 116 = .ok (.iconst 3, 1) := by decide +kernel
theorem dX4_readThing_117 : decode cX4_readThing 117 = .ok (.iconst 0, 1) := by decide +kernel
theorem dX4_readThing_118 : decode cX4_readThing 118 = .ok (.bipush 20, 2) := by decide +kernel
theorem dX4_readThing_120 : decode cX4_readThing 120 = .ok (.invokevirtual 113, 3) := by decide +kernel
theorem dX4_readThing_123 : decode cX4_readThing 123 = .ok (.ifCond .eq 97, 3) := by decide +kernel
theorem dX4_readThing_126 : decode cX4_readThing 126 = .ok (.aload_n 0, 1) := by decide +kernel
theorem dX4_readThing_127 : decode cX4_readThing 127 = .ok (.aload_n 0, 1) := by decide +kernel
theorem dX4_readThing_128 : decode cX4_readThing 128 = .ok (.getfield 15, 3) := by decide +kernel
theorem dX4_readThing_131 : decode cX4_readThing 131 = .ok (.getfield 136, 3) := by decide +kernel
theorem dX4_readThing_134 : decode cX4_readThing 134 = .ok (.iload_n 2, 1) := by decide +kernel
theorem dX4_readThing_135 : decode cX4_readThing 135 = .ok (.iconst 4, 1) := by decide +kernel
theorem dX4_readThing_136 : decode cX4_readThing 136 = .ok (.iconst 0, 1) := by decide +kernel
theorem dX4_readThing_137 : decode cX4_readThing 137 = .ok (.sipush 999, 3) := by decide +kernel
theorem dX4_readThing_140 : decode cX4_readThing 140 = .ok (.invokevirtual 113, 3) := by decide +kernel
theorem dX4_readThing_143 : decode cX4_readThing 143 = .ok (.ifCond .eq 77, 3) := by decide +kernel
theorem dX4_readThing_146 : decode cX4_readThing 146 = .ok (.aload_n 0, 1) := by decide +kernel
theorem dX4_readThing_147 : decode cX4_readThing 147 = .ok (.aload_n 0, 1) := by decide +kernel
theorem dX4_readThing_148 : decode cX4_readThing 148 = .ok (.getfield 15, 3) := by decide +kernel
theorem dX4_readThing_151 : decode cX4_readThing 151 = .ok (.getfield 117, 3) := by decide +kernel
theorem dX4_readThing_154 : decode cX4_readThing 154 = .ok (.invokevirtual 120, 3) := by decide +kernel
theorem dX4_readThing_157 : decode cX4_readThing 157 = .ok (.ifCond .eq 63, 3) := by decide +kernel
theorem dX4_readThing_160 : decode cX4_readThing 160 = .ok (.aload_n 0, 1) := by decide +kernel
theorem dX4_readThing_161 : decode cX4_readThing 161 = .ok (.iload_n 2, 1) := by decide +kernel
theorem dX4_readThing_162 : decode cX4_readThing 162 = .ok (.aload_n 0, 1) := by decide +kernel
theorem dX4_readThing_163 : decode cX4_readThing 163 = .ok (.getfield 9, 3) := by decide +kernel
theorem dX4_readThing_166 : decode cX4_readThing 166 = .ok (.getfield 93, 3) := by decide +kernel
theorem dX4_readThing_169 : decode cX4_readThing 169 = .ok (.invokevirtual 148, 3) := by decide +kernel
theorem dX4_readThing_172 : decode cX4_readThing 172 = .ok (.ifCond .eq 48, 3) := by decide +kernel
theorem dX4_readThing_175 : decode cX4_readThing 175 = .ok (.aload_n 0, 1) := by decide +kernel
theorem dX4_readThing_176 : decode cX4_readThing 176 = .ok (.aload_n 0, 1) := by decide +kernel
theorem dX4_readThing_177 : decode cX4_readThing 177 = .ok (.getfield 15, 3) := by decide +kernel
theorem dX4_readThing_180 : decode cX4_readThing 180 = .ok (.getfield 136, 3) := by decide +kernel
theorem dX4_readThing_183 : decode cX4_readThing 183 = .ok (.iload_n 2, 1) := by decide +kernel
theorem dX4_readThing_184 : decode cX4_readThing 184 = .ok (.iconst 5, 1) := by decide +kernel
theorem dX4_readThing_185 : decode cX4_readThing 185 = .ok (.invokevirtual 126, 3) := by decide +kernel
theorem dX4_readThing_188 : decode cX4_readThing 188 = .ok (.ifCond .eq 32, 3) := by decide +kernel
theorem dX4_readThing_191 : decode cX4_readThing 191 = .ok (.iload_n 1, 1) := by decide +kernel
theorem dX4_readThing_192 : decode cX4_readThing 192 = .ok (.iconst 1, 1) := by decide +kernel
theorem dX4_readThing_193 : decode cX4_readThing 193 = .ok (.if_icmp .ne 23, 3) := by decide +kernel
theorem dX4_readThing_196 : decode cX4_readThing 196 = .ok (.aload_n 0, 1) := by decide +kernel
theorem dX4_readThing_197 : decode cX4_readThing 197 = .ok (.aload_n 0, 1) := by decide +kernel
theorem dX4_readThing_198 : decode cX4_readThing 198 = .ok (.getfield 15, 3) := by decide +kernel
theorem dX4_readThing_201 : decode cX4_readThing 201 = .ok (.getfield 136, 3) := by decide +kernel
theorem dX4_readThing_204 : decode cX4_readThing 204 = .ok (.iload_n 2, 1) := by decide +kernel
theorem dX4_readThing_205 : decode cX4_readThing 205 = .ok (.bipush 6, 2) := by decide +kernel
theorem dX4_readThing_207 : decode cX4_readThing 207 = .ok (.iconst 1, 1) := by decide +kernel
theorem dX4_readThing_208 : decode cX4_readThing 208 = .ok (.bipush 9, 2) := by decide +kernel
theorem dX4_readThing_210 : decode cX4_readThing 210 = .ok (.invokevirtual 113, 3) := by decide +kernel
theorem dX4_readThing_213 : decode cX4_readThing 213 = .ok (.ifCond .eq 7, 3) := by decide +kernel
theorem dX4_readThing_216 : decode cX4_readThing 216 = .ok (.iconst 1, 1) := by decide +kernel
theorem dX4_readThing_217 : decode cX4_readThing 217 = .ok (.goto 4, 3) := by decide +kernel
theorem dX4_readThing_220 : decode cX4_readThing 220 = .ok (.iconst 0, 1) := by decide +kernel
theorem dX4_readThing_221 : decode cX4_readThing 221 = .ok (.istore_n 3, 1) := by decide +kernel
theorem dX4_readThing_222 : decode cX4_readThing 222 = .ok (.aload_n 0, 1) := by decide +kernel
theorem dX4_readThing_223 : decode cX4_readThing 223 = .ok (.getfield 15, 3) := by decide +kernel
theorem dX4_readThing_226 : decode cX4_readThing 226 = .ok (.dup, 1) := by decide +kernel
theorem dX4_readThing_227 : decode cX4_readThing 227 = .ok (.getfield 133, 3) := by decide +kernel
theorem dX4_readThing_230 : decode cX4_readThing 230 = .ok (.iconst 1, 1) := by decide +kernel
theorem dX4_readThing_231 : decode cX4_readThing 231 = .ok (.iadd, 1) := by decide +kernel
theorem dX4_readThing_232 : decode cX4_readThing 232 = .ok (.putfield 133, 3) := by decide +kernel
theorem dX4_readThing_235 : decode cX4_readThing 235 = .ok (.iload_n 3, 1) := by decide +kernel
theorem dX4_readThing_236 : decode cX4_readThing 236 = .ok (.ireturn, 1) := by decide +kernel
set_option maxRecDepth 20000 in
theorem ggX4_isRoomFor_X8_at_ : GoodIn wsX4_isRoomFor wsX8_at_ := goodIn_r _ [8, 9, 10, 32, 33] rfl (by decide +kernel)
set_option maxRecDepth 20000 in
theorem gX4_isRoomFor_X8_at_ : GoodIn wsX4_isRoomFor (wsV RX4 139 RX8 yX8_at_ wsX8_at_) := goodIn_app (goodIn_of _ (by decide +kernel)) ggX4_isRoomFor_X8_at_
set_option maxRecDepth 20000 in
theorem ggX4_isRoomFor_X4_refuse : GoodIn wsX4_isRoomFor wsX4_refuse := goodIn_r _ [15, 16, 17, 18, 19] rfl (by decide +kernel)
set_option maxRecDepth 20000 in
theorem gX4_isRoomFor_X4_refuse : GoodIn wsX4_isRoomFor (wsV RX4 87 RX4 yX4_refuse wsX4_refuse) := goodIn_app (goodIn_of _ (by decide +kernel)) ggX4_isRoomFor_X4_refuse
theorem dX4_isRoomFor_0 : decode cX4_isRoomFor 0 = .ok (.aload_n 0, 1) := by decide +kernel
theorem dX4_isRoomFor_1 : decode cX4_isRoomFor 1 = .ok (.getfield 15, 3) := by decide +kernel
theorem dX4_isRoomFor_4 : decode cX4_isRoomFor 4 = .ok (.getfield 136, 3) := by decide +kernel
theorem dX4_isRoomFor_7 : decode cX4_isRoomFor 7 = .ok (.iload_n 1, 1) := by decide +kernel
theorem dX4_isRoomFor_8 : decode cX4_isRoomFor 8 = .ok (.iconst 0, 1) := by decide +kernel
theorem dX4_isRoomFor_9 : decode cX4_isRoomFor 9 = .ok (.invokevirtual 139, 3) := by decide +kernel
theorem dX4_isRoomFor_12 : decode cX4_isRoomFor 12 = .ok (.iconst 2, 1) := by decide +kernel
theorem dX4_isRoomFor_13 : decode cX4_isRoomFor 13 = .ok (.if_icmp .ne 22, 3) := by decide +kernel
theorem dX4_isRoomFor_16 : decode cX4_isRoomFor 16 = .ok (.aload_n 0, 1) := by decide +kernel
theorem dX4_isRoomFor_17 : decode cX4_isRoomFor 17 = .ok (.getfield 15, 3) := by decide +kernel
theorem dX4_isRoomFor_20 : decode cX4_isRoomFor 20 = .ok (.getfield 123, 3) := by decide +kernel
theorem dX4_isRoomFor_23 : decode cX4_isRoomFor 23 = .ok (.iload_n 2, 1) := by decide +kernel
theorem dX4_isRoomFor_24 : decode cX4_isRoomFor 24 = .ok (.iconst 4, 1) := by decide +kernel
theorem dX4_isRoomFor_25 : decode cX4_isRoomFor 25 = .ok (.invokevirtual 139, 3) := by decide +kernel
theorem dX4_isRoomFor_28 : decode cX4_isRoomFor 28 = .ok (.ifCond .eq 7, 3) := by decide +kernel
theorem dX4_isRoomFor_31 : decode cX4_isRoomFor 31 = .ok (.iconst 1, 1) := by decide +kernel
theorem dX4_isRoomFor_32 : decode cX4_isRoomFor 32 = .ok (.goto 4, 3) := by decide +kernel
theorem dX4_isRoomFor_35 : decode cX4_isRoomFor 35 = .ok (.iconst 0, 1) := by decide +kernel
theorem dX4_isRoomFor_36 : decode cX4_isRoomFor 36 = .ok (.istore_n 3, 1) := by decide +kernel
theorem dX4_isRoomFor_37 : decode cX4_isRoomFor 37 = .ok (.aload_n 0, 1) := by decide +kernel
theorem dX4_isRoomFor_38 : decode cX4_isRoomFor 38 = .ok (.getfield 15, 3) := by decide +kernel
theorem dX4_isRoomFor_41 : decode cX4_isRoomFor 41 = .ok (.getfield 136, 3) := by decide +kernel
theorem dX4_isRoomFor_44 : decode cX4_isRoomFor 44 = .ok (.iload_n 1, 1) := by decide +kernel
theorem dX4_isRoomFor_45 : decode cX4_isRoomFor 45 = .ok (.iconst 3, 1) := by decide +kernel
theorem dX4_isRoomFor_46 : decode cX4_isRoomFor 46 = .ok (.invokevirtual 139, 3) := by decide +kernel
theorem dX4_isRoomFor_49 : decode cX4_isRoomFor 49 = .ok (.istore 4, 2) := by decide +kernel
theorem dX4_isRoomFor_51 : decode cX4_isRoomFor 51 = .ok (.iconst 0, 1) := by decide +kernel
theorem dX4_isRoomFor_52 : decode cX4_isRoomFor 52 = .ok (.istore 5, 2) := by decide +kernel
theorem dX4_isRoomFor_54 : decode cX4_isRoomFor 54 = .ok (.iload 5, 2) := by decide +kernel
theorem dX4_isRoomFor_56 : decode cX4_isRoomFor 56 = .ok (.iload_n 1, 1) := by decide +kernel
theorem dX4_isRoomFor_57 : decode cX4_isRoomFor 57 = .ok (.if_icmp .ge 44, 3) := by decide +kernel
theorem dX4_isRoomFor_60 : decode cX4_isRoomFor 60 = .ok (.aload_n 0, 1) := by decide +kernel
theorem dX4_isRoomFor_61 : decode cX4_isRoomFor 61 = .ok (.getfield 15, 3) := by decide +kernel
theorem dX4_isRoomFor_64 : decode cX4_isRoomFor 64 = .ok (.getfield 136, 3) := by decide +kernel
theorem dX4_isRoomFor_67 : decode cX4_isRoomFor 67 = .ok (.iload 5, 2) := by decide +kernel
theorem dX4_isRoomFor_69 : decode cX4_isRoomFor 69 = .ok (.iconst 5, 1) := by decide +kernel
theorem dX4_isRoomFor_70 : decode cX4_isRoomFor 70 = .ok (.invokevirtual 139, 3) := by decide +kernel
theorem dX4_isRoomFor_73 : decode cX4_isRoomFor 73 = .ok (.iload_n 2, 1) := by decide +kernel
theorem dX4_isRoomFor_74 : decode cX4_isRoomFor 74 = .ok (.if_icmp .ne 21, 3) := by decide +kernel
theorem dX4_isRoomFor_77 : decode cX4_isRoomFor 77 = .ok (.iload 4, 2) := by decide +kernel
theorem dX4_isRoomFor_79 : decode cX4_isRoomFor 79 = .ok (.aload_n 0, 1) := by decide +kernel
theorem dX4_isRoomFor_80 : decode cX4_isRoomFor 80 = .ok (.getfield 15, 3) := by decide +kernel
theorem dX4_isRoomFor_83 : decode cX4_isRoomFor 83 = .ok (.getfield 136, 3) := by decide +kernel
theorem dX4_isRoomFor_86 : decode cX4_isRoomFor 86 = .ok (.iload 5, 2) := by decide +kernel
theorem dX4_isRoomFor_88 : decode cX4_isRoomFor 88 = .ok (.iconst 3, 1) := by decide +kernel
theorem dX4_isRoomFor_89 : decode cX4_isRoomFor 89 = .ok (.invokevirtual 139, 3) := by decide +kernel
theorem dX4_isRoomFor_92 : decode cX4_isRoomFor 92 = .ok (.iadd, 1) := by decide +kernel
theorem dX4_isRoomFor_93 : decode cX4_isRoomFor 93 = .ok (.istore 4, 2) := by decide +kernel
theorem dX4_isRoomFor_95 : decode cX4_isRoomFor 95 = .ok (.iinc 5 1, 3) := by decide +kernel
theorem dX4_isRoomFor_98 : decode cX4_isRoomFor 98 = .ok (.goto (-44), 3) := by decide +kernel
theorem dX4_isRoomFor_101 : decode cX4_isRoomFor 101 = .ok (.iload_n 3, 1) := by decide +kernel
theorem dX4_isRoomFor_102 : decode cX4_isRoomFor 102 = .ok (.ifCond .ne 20, 3) := by decide +kernel
theorem dX4_isRoomFor_105 : decode cX4_isRoomFor 105 = .ok (.iload 4, 2) := by decide +kernel
theorem dX4_isRoomFor_107 : decode cX4_isRoomFor 107 = .ok (.aload_n 0, 1) := by decide +kernel
theorem dX4_isRoomFor_108 : decode cX4_isRoomFor 108 = .ok (.getfield 15, 3) := by decide +kernel
theorem dX4_isRoomFor_111 : decode cX4_isRoomFor 111 = .ok (.getfield 123, 3) := by decide +kernel
theorem dX4_isRoomFor_114 : decode cX4_isRoomFor 114 = .ok (.iload_n 2, 1) := by decide +kernel
theorem dX4_isRoomFor_115 : decode cX4_isRoomFor 115 = .ok (.iconst 2, 1) := by decide +kernel
theorem dX4_isRoomFor_116 : decode cX4_isRoomFor 116 = .ok (.invokevirtual 139, 3) := by decide +kernel
theorem dX4_isRoomFor_119 : decode cX4_isRoomFor 119 = .ok (.if_icmp .le 12, 3) := by decide +kernel
theorem dX4_isRoomFor_122 : decode cX4_isRoomFor 122 = .ok (.aload_n 0, 1) := by decide +kernel
theorem dX4_isRoomFor_123 : decode cX4_isRoomFor 123 = .ok (.bipush 6, 2) := by decide +kernel
theorem dX4_isRoomFor_125 : decode cX4_isRoomFor 125 = .ok (.invokevirtual 87, 3) := by decide +kernel
theorem dX4_isRoomFor_128 : decode cX4_isRoomFor 128 = .ok (.ifCond .eq 7, 3) := by decide +kernel
theorem dX4_isRoomFor_131 : decode cX4_isRoomFor 131 = .ok (.iconst 1, 1) := by decide +kernel
theorem dX4_isRoomFor_132 : decode cX4_isRoomFor 132 = .ok (.goto 4, 3) := by decide +kernel
theorem dX4_isRoomFor_135 : decode cX4_isRoomFor 135 = .ok (.iconst 0, 1) := by decide +kernel
theorem dX4_isRoomFor_136 : decode cX4_isRoomFor 136 = .ok (.ireturn, 1) := by decide +kernel
set_option maxRecDepth 20000 in
theorem ggX4_readPost_X4_refuse : GoodIn wsX4_readPost wsX4_refuse := goodIn_r _ [9, 10, 124, 125, 126] rfl (by decide +kernel)
set_option maxRecDepth 20000 in
theorem gX4_readPost_X4_refuse : GoodIn wsX4_readPost (wsV RX4 87 RX4 yX4_refuse wsX4_refuse) := goodIn_app (goodIn_of _ (by decide +kernel)) ggX4_readPost_X4_refuse
set_option maxRecDepth 20000 in
theorem ggX4_readPost_X9_advance : GoodIn wsX4_readPost wsX9_advance := goodIn_r _ [15, 16, 17, 18, 19, 20, 21, 22, 23, 24, 25, 14, 26, 27, 28, 29, 30, 31, 32, 33, 34, 35, 36, 37, 38, 39, 40, 41, 42, 43, 44, 45, 46, 47, 48, 49, 50, 51, 52, 53, 54, 55, 56, 57, 58, 59, 60, 61, 62, 63, 64, 65, 66, 67, 68, 69, 70, 71, 72, 73, 74, 75, 76, 77, 78, 79, 80, 81, 82, 83, 84, 85, 86, 87, 88, 89, 90, 91, 92, 93, 94, 139, 140, 141, 142, 143, 144, 145, 146] rfl (by decide +kernel)
set_option maxRecDepth 20000 in
theorem gX4_readPost_X9_advance : GoodIn wsX4_readPost (wsV RX4 90 RX9 yX9_advance wsX9_advance) := goodIn_app (goodIn_of _ (by decide +kernel)) ggX4_readPost_X9_advance
set_option maxRecDepth 20000 in
theorem ggX4_readPost_X4_isNumber : GoodIn wsX4_readPost wsX4_isNumber := goodIn_r _ [98, 3, 99, 100, 5, 6, 7, 8, 9, 10, 124, 125, 126, 139, 140, 141, 142, 143, 144, 145, 146] rfl (by decide +kernel)
set_option maxRecDepth 20000 in
theorem gX4_readPost_X4_isNumber : GoodIn wsX4_readPost (wsV RX4 96 RX4 yX4_isNumber wsX4_isNumber) := goodIn_app (goodIn_of _ (by decide +kernel)) ggX4_readPost_X4_isNumber
set_option maxRecDepth 20000 in
theorem ggX4_readPost_X4_isMoreThanAhead : GoodIn wsX4_readPost wsX4_isMoreThanAhead := goodIn_r _ [104, 3, 100, 1, 4, 105, 106, 107, 108, 109, 110, 111, 5, 6, 7, 8, 9, 10, 124, 125, 126, 139, 140, 141, 142, 143, 144, 145, 146, 127, 128, 129, 130, 131, 132, 133, 134, 135, 136, 137, 138, 147, 148] rfl (by decide +kernel)
set_option maxRecDepth 20000 in
theorem gX4_readPost_X4_isMoreThanAhead : GoodIn wsX4_readPost (wsV RX4 154 RX4 yX4_isMoreThanAhead wsX4_isMoreThanAhead) := goodIn_app (goodIn_of _ (by decide +kernel)) ggX4_readPost_X4_isMoreThanAhead
set_option maxRecDepth 20000 in
theorem ggX4_readPost_X4_takeNumber : GoodIn wsX4_readPost wsX4_takeNumber := goodIn_r _ [115, 3, 100, 116, 117, 118, 108, 119, 110, 111, 11, 12, 13, 14, 15, 16, 17, 18, 19, 20, 21, 22, 23, 24, 25, 26, 27, 28, 29, 30, 31, 32, 33, 34, 35, 36, 37, 38, 39, 40, 41, 42, 43, 44, 45, 46, 47, 48, 49, 50, 51, 52, 53, 54, 55, 56, 57, 58, 59, 60, 61, 62, 63, 64, 65, 66, 67, 68, 69, 70, 71, 72, 73, 74, 75, 76, 77, 78, 79, 80, 81, 82, 83, 84, 85, 86, 87, 88, 89, 90, 91, 92, 93, 94, 124, 125, 126, 139, 140, 141, 142, 143, 144, 145, 146, 147, 148] rfl (by decide +kernel)
set_option maxRecDepth 20000 in
theorem gX4_readPost_X4_takeNumber : GoodIn wsX4_readPost (wsV RX4 126 RX4 yX4_takeNumber wsX4_takeNumber) := goodIn_app (goodIn_of _ (by decide +kernel)) ggX4_readPost_X4_takeNumber
set_option maxRecDepth 20000 in
theorem ggX4_readPost_X4_readNumber : GoodIn wsX4_readPost wsX4_readNumber := goodIn_r _ [123, 3, 100, 95, 96, 97, 8, 98, 99, 5, 6, 7, 9, 10, 116, 117, 118, 108, 119, 110, 111, 11, 12, 13, 14, 15, 16, 17, 18, 19, 20, 21, 22, 23, 24, 25, 26, 27, 28, 29, 30, 31, 32, 33, 34, 35, 36, 37, 38, 39, 40, 41, 42, 43, 44, 45, 46, 47, 48, 49, 50, 51, 52, 53, 54, 55, 56, 57, 58, 59, 60, 61, 62, 63, 64, 65, 66, 67, 68, 69, 70, 71, 72, 73, 74, 75, 76, 77, 78, 79, 80, 81, 82, 83, 84, 85, 86, 87, 88, 89, 90, 91, 92, 93, 94, 124, 125, 126, 139, 140, 141, 142, 143, 144, 145, 146, 147, 148] rfl (by decide +kernel)
set_option maxRecDepth 20000 in
theorem gX4_readPost_X4_readNumber : GoodIn wsX4_readPost (wsV RX4 113 RX4 yX4_readNumber wsX4_readNumber) := goodIn_app (goodIn_of _ (by decide +kernel)) ggX4_readPost_X4_readNumber
theorem dX4_readPost_0 : decode cX4_readPost 0 = .ok (.aload_n 0, 1) := by decide +kernel
theorem dX4_readPost_1 : decode cX4_readPost 1 = .ok (.getfield 15, 3) := by decide +kernel
theorem dX4_readPost_4 : decode cX4_readPost 4 = .ok (.getfield 151, 3) := by decide +kernel
theorem dX4_readPost_7 : decode cX4_readPost 7 = .ok (.istore_n 1, 1) := by decide +kernel
theorem dX4_readPost_8 : decode cX4_readPost 8 = .ok (.iload_n 1, 1) := by decide +kernel
theorem dX4_readPost_9 : decode cX4_readPost 9 = .ok (.bipush 6, 2) := by decide +kernel
theorem dX4_readPost_11 : decode cX4_readPost 11 = .ok (.if_icmp .lt 9, 3) := by decide +kernel
theorem dX4_readPost_14 : decode cX4_readPost 14 = .ok (.aload_n 0, 1) := by decide +kernel
theorem dX4_readPost_15 : decode cX4_readPost 15 = .ok (.iconst 2, 1) := by decide +kernel
theorem dX4_readPost_16 : decode cX4_readPost 16 = .ok (.invokevirtual 87, 3) := by decide +kernel
theorem dX4_readPost_19 : decode cX4_readPost 19 = .ok (.ireturn, 1) := by decide +kernel
theorem dX4_readPost_20 : decode cX4_readPost 20 = .ok (.aload_n 0, 1) := by decide +kernel
theorem dX4_readPost_21 : decode cX4_readPost 21 = .ok (.getfield 9, 3) := by decide +kernel
theorem dX4_readPost_24 : decode cX4_readPost 24 = .ok (.invokevirtual 90, 3) := by decide +kernel
theorem dX4_readPost_27 : decode cX4_readPost 27 = .ok (.aload_n 0, 1) := by decide +kernel
theorem dX4_readPost_28 : decode cX4_readPost 28 = .ok (.iconst 1, 1) := by decide +kernel
theorem dX4_readPost_29 : decode cX4_readPost 29 = .ok (.bipush 99, 2) := by decide +kernel
theorem dX4_readPost_31 : decode cX4_readPost 31 = .ok (.invokevirtual 96, 3) := by decide +kernel
theorem dX4_readPost_34 : decode cX4_readPost 34 = .ok (.ifCond .eq 51, 3) := by decide +kernel
theorem dX4_readPost_37 : decode cX4_readPost 37 = .ok (.aload_n 0, 1) := by decide +kernel
theorem dX4_readPost_38 : decode cX4_readPost 38 = .ok (.iload_n 1, 1) := by decide +kernel
theorem dX4_readPost_39 : decode cX4_readPost 39 = .ok (.invokevirtual 154, 3) := by decide +kernel
theorem dX4_readPost_42 : decode cX4_readPost 42 = .ok (.ifCond .eq 43, 3) := by decide +kernel
theorem dX4_readPost_45 : decode cX4_readPost 45 = .ok (.aload_n 0, 1) := by decide +kernel
theorem dX4_readPost_46 : decode cX4_readPost 46 = .ok (.aload_n 0, 1) := by decide +kernel
theorem dX4_readPost_47 : decode cX4_readPost 47 = .ok (.getfield 15, 3) := by decide +kernel
theorem dX4_readPost_50 : decode cX4_readPost 50 = .ok (.getfield 157, 3) := by decide +kernel
theorem dX4_readPost_53 : decode cX4_readPost 53 = .ok (.iload_n 1, 1) := by decide +kernel
theorem dX4_readPost_54 : decode cX4_readPost 54 = .ok (.iconst 0, 1) := by decide +kernel
theorem dX4_readPost_55 : decode cX4_readPost 55 = .ok (.invokevirtual 126, 3) := by decide +kernel
theorem dX4_readPost_58 : decode cX4_readPost 58 = .ok (.ifCond .eq 27, 3) := by decide +kernel
theorem dX4_readPost_61 : decode cX4_readPost 61 = .ok (.aload_n 0, 1) := by decide +kernel
theorem dX4_readPost_62 : decode cX4_readPost 62 = .ok (.aload_n 0, 1) := by decide +kernel
theorem dX4_readPost_63 : decode cX4_readPost 63 = .ok (.getfield 15, 3) := by decide +kernel
theorem dX4_readPost_66 : decode cX4_readPost 66 = .ok (.getfield 157, 3) := by decide +kernel
theorem dX4_readPost_69 : decode cX4_readPost 69 = .ok (.iload_n 1, 1) := by decide +kernel
theorem dX4_readPost_70 : decode cX4_readPost 70 = .ok (.iconst 1, 1) := by decide +kernel
theorem dX4_readPost_71 : decode cX4_readPost 71 = .ok (.iconst 0, 1) := by decide +kernel
theorem dX4_readPost_72 : decode cX4_readPost 72 = .ok (.sipush 999, 3) := by decide +kernel
theorem dX4_readPost_75 : decode cX4_readPost 75 = .ok (.invokevirtual 113, 3) := by decide +kernel
theorem dX4_readPost_78 : decode cX4_readPost 78 = .ok (.ifCond .eq 7, 3) := by decide +kernel
theorem dX4_readPost_81 : decode cX4_readPost 81 = .ok (.iconst 1, 1) := by decide +kernel
theorem dX4_readPost_82 : decode cX4_readPost 82 = .ok (.goto 4, 3) := by decide +kernel
theorem dX4_readPost_85 : decode cX4_readPost 85 = .ok (.iconst 0, 1) := by decide +kernel
theorem dX4_readPost_86 : decode cX4_readPost 86 = .ok (.istore_n 2, 1) := by decide +kernel
theorem dX4_readPost_87 : decode cX4_readPost 87 = .ok (.aload_n 0, 1) := by decide +kernel
theorem dX4_readPost_88 : decode cX4_readPost 88 = .ok (.getfield 15, 3) := by decide +kernel
theorem dX4_readPost_91 : decode cX4_readPost 91 = .ok (.dup, 1) := by decide +kernel
theorem dX4_readPost_92 : decode cX4_readPost 92 = .ok (.getfield 151, 3) := by decide +kernel
theorem dX4_readPost_95 : decode cX4_readPost 95 = .ok (.iconst 1, 1) := by decide +kernel
theorem dX4_readPost_96 : decode cX4_readPost 96 = .ok (.iadd, 1) := by decide +kernel
theorem dX4_readPost_97 : decode cX4_readPost 97 = .ok (.putfield 151, 3) := by decide +kernel
theorem dX4_readPost_100 : decode cX4_readPost 100 = .ok (.iload_n 2, 1) := by decide +kernel
theorem dX4_readPost_101 : decode cX4_readPost 101 = .ok (.ireturn, 1) := by decide +kernel
set_option maxRecDepth 20000 in
theorem ggX4_isMoreThanAhead_X8_at_ : GoodIn wsX4_isMoreThanAhead wsX8_at_ := goodIn_r _ [9, 10, 11, 41, 42] rfl (by decide +kernel)
set_option maxRecDepth 20000 in
theorem gX4_isMoreThanAhead_X8_at_ : GoodIn wsX4_isMoreThanAhead (wsV RX4 139 RX8 yX8_at_ wsX8_at_) := goodIn_app (goodIn_of _ (by decide +kernel)) ggX4_isMoreThanAhead_X8_at_
set_option maxRecDepth 20000 in
theorem ggX4_isMoreThanAhead_X4_refuse : GoodIn wsX4_isMoreThanAhead wsX4_refuse := goodIn_r _ [16, 17, 18, 19, 20] rfl (by decide +kernel)
set_option maxRecDepth 20000 in
theorem gX4_isMoreThanAhead_X4_refuse : GoodIn wsX4_isMoreThanAhead (wsV RX4 87 RX4 yX4_refuse wsX4_refuse) := goodIn_app (goodIn_of _ (by decide +kernel)) ggX4_isMoreThanAhead_X4_refuse
theorem dX4_isMoreThanAhead_0 : decode cX4_isMoreThanAhead 0 = .ok (.iload_n 1, 1) := by decide +kernel
theorem dX4_isMoreThanAhead_1 : decode cX4_isMoreThanAhead 1 = .ok (.ifCond .eq 35, 3) := by decide +kernel
theorem dX4_isMoreThanAhead_4 : decode cX4_isMoreThanAhead 4 = .ok (.aload_n 0, 1) := by decide +kernel
theorem dX4_isMoreThanAhead_5 : decode cX4_isMoreThanAhead 5 = .ok (.getfield 9, 3) := by decide +kernel
theorem dX4_isMoreThanAhead_8 : decode cX4_isMoreThanAhead 8 = .ok (.getfield 93, 3) := by decide +kernel
theorem dX4_isMoreThanAhead_11 : decode cX4_isMoreThanAhead 11 = .ok (.aload_n 0, 1) := by decide +kernel
theorem dX4_isMoreThanAhead_12 : decode cX4_isMoreThanAhead 12 = .ok (.getfield 15, 3) := by decide +kernel
theorem dX4_isMoreThanAhead_15 : decode cX4_isMoreThanAhead 15 = .ok (.getfield 157, 3) := by decide +kernel
theorem dX4_isMoreThanAhead_18 : decode cX4_isMoreThanAhead 18 = .ok (.iload_n 1, 1) := by decide +kernel
theorem dX4_isMoreThanAhead_19 : decode cX4_isMoreThanAhead 19 = .ok (.iconst 1, 1) := by decide +kernel
theorem dX4_isMoreThanAhead_20 : decode cX4_isMoreThanAhead 20 = .ok (.isub, 1) := by decide +kernel
theorem dX4_isMoreThanAhead_21 : decode cX4_isMoreThanAhead 21 = .ok (.iconst 0, 1) := by decide +kernel
theorem dX4_isMoreThanAhead_22 : decode cX4_isMoreThanAhead 22 = .ok (.invokevirtual 139, 3) := by decide +kernel
theorem dX4_isMoreThanAhead_25 : decode cX4_isMoreThanAhead 25 = .ok (.if_icmp .gt 11, 3) := by decide +kernel
theorem dX4_isMoreThanAhead_28 : decode cX4_isMoreThanAhead 28 = .ok (.aload_n 0, 1) := by decide +kernel
theorem dX4_isMoreThanAhead_29 : decode cX4_isMoreThanAhead 29 = .ok (.iconst 4, 1) := by decide +kernel
theorem dX4_isMoreThanAhead_30 : decode cX4_isMoreThanAhead 30 = .ok (.invokevirtual 87, 3) := by decide +kernel
theorem dX4_isMoreThanAhead_33 : decode cX4_isMoreThanAhead 33 = .ok (.ifCond .eq 7, 3) := by decide +kernel
theorem dX4_isMoreThanAhead_36 : decode cX4_isMoreThanAhead 36 = .ok (.iconst 1, 1) := by decide +kernel
theorem dX4_isMoreThanAhead_37 : decode cX4_isMoreThanAhead 37 = .ok (.goto 4, 3) := by decide +kernel
theorem dX4_isMoreThanAhead_40 : decode cX4_isMoreThanAhead 40 = .ok (.iconst 0, 1) := by decide +kernel
theorem dX4_isMoreThanAhead_41 : decode cX4_isMoreThanAhead 41 = .ok (.ireturn, 1) := by decide +kernel
set_option maxRecDepth 20000 in
theorem ggX4_readLooks_X4_refuse : GoodIn wsX4_readLooks wsX4_refuse := goodIn_r _ [11, 12, 102, 103, 104] rfl (by decide +kernel)
set_option maxRecDepth 20000 in
theorem gX4_readLooks_X4_refuse : GoodIn wsX4_readLooks (wsV RX4 87 RX4 yX4_refuse wsX4_refuse) := goodIn_app (goodIn_of _ (by decide +kernel)) ggX4_readLooks_X4_refuse
set_option maxRecDepth 20000 in
theorem ggX4_readLooks_X9_advance : GoodIn wsX4_readLooks wsX9_advance := goodIn_r _ [17, 18, 19, 20, 21, 22, 23, 24, 25, 26, 27, 16, 28, 29, 30, 31, 32, 33, 34, 35, 36, 37, 38, 39, 40, 41, 42, 43, 44, 45, 46, 47, 48, 49, 50, 51, 52, 53, 54, 55, 56, 57, 58, 59, 60, 61, 62, 63, 64, 65, 66, 67, 68, 69, 70, 71, 72, 73, 74, 75, 76, 77, 78, 79, 80, 81, 82, 83, 84, 85, 86, 87, 88, 89, 90, 91, 92, 93, 94, 95, 96, 117, 118, 119, 120, 121, 122, 123, 124] rfl (by decide +kernel)
set_option maxRecDepth 20000 in
theorem gX4_readLooks_X9_advance : GoodIn wsX4_readLooks (wsV RX4 90 RX9 yX9_advance wsX9_advance) := goodIn_app (goodIn_of _ (by decide +kernel)) ggX4_readLooks_X9_advance
set_option maxRecDepth 20000 in
theorem ggX4_readLooks_X4_isNumber : GoodIn wsX4_readLooks wsX4_isNumber := goodIn_r _ [100, 3, 101, 4, 7, 8, 9, 10, 11, 12, 102, 103, 104, 117, 118, 119, 120, 121, 122, 123, 124] rfl (by decide +kernel)
set_option maxRecDepth 20000 in
theorem gX4_readLooks_X4_isNumber : GoodIn wsX4_readLooks (wsV RX4 96 RX4 yX4_isNumber wsX4_isNumber) := goodIn_app (goodIn_of _ (by decide +kernel)) ggX4_readLooks_X4_isNumber
theorem dX4_readLooks_0 : decode cX4_readLooks 0 = .ok (.aload_n 0, 1) := by decide +kernel
theorem dX4_readLooks_1 : decode cX4_readLooks 1 = .ok (.getfield 15, 3) := by decide +kernel
theorem dX4_readLooks_4 : decode cX4_readLooks 4 = .ok (.getfield 160, 3) := by decide +kernel
theorem dX4_readLooks_7 : decode cX4_readLooks 7 = .ok (.ifCond .eq 9, 3) := by decide +kernel
theorem dX4_readLooks_10 : decode cX4_readLooks 10 = .ok (.aload_n 0, 1) := by decide +kernel
theorem dX4_readLooks_11 : decode cX4_readLooks 11 = .ok (.iconst 5, 1) := by decide +kernel
theorem dX4_readLooks_12 : decode cX4_readLooks 12 = .ok (.invokevirtual 87, 3) := by decide +kernel
theorem dX4_readLooks_15 : decode cX4_readLooks 15 = .ok (.ireturn, 1) := by decide +kernel
theorem dX4_readLooks_16 : decode cX4_readLooks 16 = .ok (.aload_n 0, 1) := by decide +kernel
theorem dX4_readLooks_17 : decode cX4_readLooks 17 = .ok (.getfield 15, 3) := by decide +kernel
theorem dX4_readLooks_20 : decode cX4_readLooks 20 = .ok (.iconst 1, 1) := by decide +kernel
theorem dX4_readLooks_21 : decode cX4_readLooks 21 = .ok (.putfield 160, 3) := by decide +kernel
theorem dX4_readLooks_24 : decode cX4_readLooks 24 = .ok (.aload_n 0, 1) := by decide +kernel
theorem dX4_readLooks_25 : decode cX4_readLooks 25 = .ok (.getfield 9, 3) := by decide +kernel
theorem dX4_readLooks_28 : decode cX4_readLooks 28 = .ok (.invokevirtual 90, 3) := by decide +kernel
theorem dX4_readLooks_31 : decode cX4_readLooks 31 = .ok (.aload_n 0, 1) := by decide +kernel
theorem dX4_readLooks_32 : decode cX4_readLooks 32 = .ok (.iconst 0, 1) := by decide +kernel
theorem dX4_readLooks_33 : decode cX4_readLooks 33 = .ok (.bipush 10, 2) := by decide +kernel
theorem dX4_readLooks_35 : decode cX4_readLooks 35 = .ok (.invokevirtual 96, 3) := by decide +kernel
theorem dX4_readLooks_38 : decode cX4_readLooks 38 = .ok (.ifCond .ne 5, 3) := by decide +kernel
theorem dX4_readLooks_41 : decode cX4_readLooks 41 = .ok (.iconst 0, 1) := by decide +kernel
theorem dX4_readLooks_42 : decode cX4_readLooks 42 = .ok (.ireturn, 1) := by decide +kernel
theorem dX4_readLooks_43 : decode cX4_readLooks 43 = .ok (.aload_n 0, 1) := by decide +kernel
theorem dX4_readLooks_44 : decode cX4_readLooks 44 = .ok (.getfield 15, 3) := by decide +kernel
theorem dX4_readLooks_47 : decode cX4_readLooks 47 = .ok (.aload_n 0, 1) := by decide +kernel
theorem dX4_readLooks_48 : decode cX4_readLooks 48 = .ok (.getfield 9, 3) := by decide +kernel
theorem dX4_readLooks_51 : decode cX4_readLooks 51 = .ok (.getfield 93, 3) := by decide +kernel
theorem dX4_readLooks_54 : decode cX4_readLooks 54 = .ok (.putfield 164, 3) := by decide +kernel
theorem dX4_readLooks_57 : decode cX4_readLooks 57 = .ok (.aload_n 0, 1) := by decide +kernel
theorem dX4_readLooks_58 : decode cX4_readLooks 58 = .ok (.getfield 9, 3) := by decide +kernel
theorem dX4_readLooks_61 : decode cX4_readLooks 61 = .ok (.invokevirtual 90, 3) := by decide +kernel
theorem dX4_readLooks_64 : decode cX4_readLooks 64 = .ok (.aload_n 0, 1) := by decide +kernel
theorem dX4_readLooks_65 : decode cX4_readLooks 65 = .ok (.iconst 0, 1) := by decide +kernel
theorem dX4_readLooks_66 : decode cX4_readLooks 66 = .ok (.sipush 999, 3) := by decide +kernel
theorem dX4_readLooks_69 : decode cX4_readLooks 69 = .ok (.invokevirtual 96, 3) := by decide +kernel
theorem dX4_readLooks_72 : decode cX4_readLooks 72 = .ok (.ifCond .ne 5, 3) := by decide +kernel
theorem dX4_readLooks_75 : decode cX4_readLooks 75 = .ok (.iconst 0, 1) := by decide +kernel
theorem dX4_readLooks_76 : decode cX4_readLooks 76 = .ok (.ireturn, 1) := by decide +kernel
theorem dX4_readLooks_77 : decode cX4_readLooks 77 = .ok (.aload_n 0, 1) := by decide +kernel
theorem dX4_readLooks_78 : decode cX4_readLooks 78 = .ok (.getfield 15, 3) := by decide +kernel
theorem dX4_readLooks_81 : decode cX4_readLooks 81 = .ok (.aload_n 0, 1) := by decide +kernel
theorem dX4_readLooks_82 : decode cX4_readLooks 82 = .ok (.getfield 9, 3) := by decide +kernel
theorem dX4_readLooks_85 : decode cX4_readLooks 85 = .ok (.getfield 93, 3) := by decide +kernel
theorem dX4_readLooks_88 : decode cX4_readLooks 88 = .ok (.putfield 167, 3) := by decide +kernel
theorem dX4_readLooks_91 : decode cX4_readLooks 91 = .ok (.aload_n 0, 1) := by decide +kernel
theorem dX4_readLooks_92 : decode cX4_readLooks 92 = .ok (.getfield 9, 3) := by decide +kernel
theorem dX4_readLooks_95 : decode cX4_readLooks 95 = .ok (.invokevirtual 90, 3) := by decide +kernel
theorem dX4_readLooks_98 : decode cX4_readLooks 98 = .ok (.iconst 1, 1) := by decide +kernel
theorem dX4_readLooks_99 : decode cX4_readLooks 99 = .ok (.ireturn, 1) := by decide +kernel
set_option maxRecDepth 20000 in
theorem ggX4_readFee_X4_refuse : GoodIn wsX4_readFee wsX4_refuse := goodIn_r _ [9, 10, 155, 156, 157] rfl (by decide +kernel)
set_option maxRecDepth 20000 in
theorem gX4_readFee_X4_refuse : GoodIn wsX4_readFee (wsV RX4 87 RX4 yX4_refuse wsX4_refuse) := goodIn_app (goodIn_of _ (by decide +kernel)) ggX4_readFee_X4_refuse
set_option maxRecDepth 20000 in
theorem ggX4_readFee_X9_advance : GoodIn wsX4_readFee wsX9_advance := goodIn_r _ [15, 16, 17, 18, 19, 20, 21, 22, 23, 24, 25, 14, 26, 27, 28, 29, 30, 31, 32, 33, 34, 35, 36, 37, 38, 39, 40, 41, 42, 43, 44, 45, 46, 47, 48, 49, 50, 51, 52, 53, 54, 55, 56, 57, 58, 59, 60, 61, 62, 63, 64, 65, 66, 67, 68, 69, 70, 71, 72, 73, 74, 75, 76, 77, 78, 79, 80, 81, 82, 83, 84, 85, 86, 87, 88, 89, 90, 91, 92, 93, 94, 176, 177, 178, 179, 180, 181, 182, 183] rfl (by decide +kernel)
set_option maxRecDepth 20000 in
theorem gX4_readFee_X9_advance : GoodIn wsX4_readFee (wsV RX4 90 RX9 yX9_advance wsX9_advance) := goodIn_app (goodIn_of _ (by decide +kernel)) ggX4_readFee_X9_advance
set_option maxRecDepth 20000 in
theorem ggX4_readFee_X4_readExpr : GoodIn wsX4_readFee wsX4_readExpr := goodIn_r _ [98, 4, 99, 100, 101, 5, 6, 7, 8, 9, 10, 102, 103, 104, 11, 12, 13, 14, 15, 16, 17, 18, 19, 20, 21, 22, 23, 24, 25, 26, 27, 28, 29, 30, 31, 32, 33, 34, 35, 36, 37, 38, 39, 40, 41, 42, 43, 44, 45, 46, 47, 48, 49, 50, 51, 52, 53, 54, 55, 56, 57, 58, 59, 60, 61, 62, 63, 64, 65, 66, 67, 68, 69, 70, 71, 72, 73, 74, 75, 76, 77, 78, 79, 80, 81, 82, 83, 84, 85, 86, 87, 88, 89, 90, 91, 92, 93, 94, 105, 106, 107, 108, 1, 2, 109, 110, 111, 112, 113, 114, 115, 116, 117, 118, 119, 120, 121, 122, 123, 124, 125, 126, 127, 128, 129, 130, 131, 132, 133, 134, 135, 136, 137, 138, 95, 96, 97, 139, 140, 141, 142, 143, 144, 145, 146, 147, 148, 149, 150, 151, 152, 153, 154, 155, 156, 157, 176, 177, 178, 179, 180, 181, 182, 183, 158, 159, 160, 161, 162, 163, 164, 165, 166, 167, 168, 169, 170, 171, 172, 173, 174, 175, 184, 185] rfl (by decide +kernel)
set_option maxRecDepth 20000 in
theorem gX4_readFee_X4_readExpr : GoodIn wsX4_readFee (wsV RX4 179 RX4 yX4_readExpr wsX4_readExpr) := goodIn_app (goodIn_of _ (by decide +kernel)) ggX4_readFee_X4_readExpr
theorem dX4_readFee_0 : decode cX4_readFee 0 = .ok (.aload_n 0, 1) := by decide +kernel
theorem dX4_readFee_1 : decode cX4_readFee 1 = .ok (.getfield 15, 3) := by decide +kernel
theorem dX4_readFee_4 : decode cX4_readFee 4 = .ok (.getfield 170, 3) := by decide +kernel
theorem dX4_readFee_7 : decode cX4_readFee 7 = .ok (.getfield 174, 3) := by decide +kernel
theorem dX4_readFee_10 : decode cX4_readFee 10 = .ok (.ifCond .eq 9, 3) := by decide +kernel
theorem dX4_readFee_13 : decode cX4_readFee 13 = .ok (.aload_n 0, 1) := by decide +kernel
theorem dX4_readFee_14 : decode cX4_readFee 14 = .ok (.iconst 5, 1) := by decide +kernel
theorem dX4_readFee_15 : decode cX4_readFee 15 = .ok (.invokevirtual 87, 3) := by decide +kernel
theorem dX4_readFee_18 : decode cX4_readFee 18 = .ok (.ireturn, 1) := by decide +kernel
theorem dX4_readFee_19 : decode cX4_readFee 19 = .ok (.aload_n 0, 1) := by decide +kernel
theorem dX4_readFee_20 : decode cX4_readFee 20 = .ok (.getfield 15, 3) := by decide +kernel
theorem dX4_readFee_23 : decode cX4_readFee 23 = .ok (.getfield 170, 3) := by decide +kernel
theorem dX4_readFee_26 : decode cX4_readFee 26 = .ok (.iconst 1, 1) := by decide +kernel
theorem dX4_readFee_27 : decode cX4_readFee 27 = .ok (.putfield 174, 3) := by decide +kernel
theorem dX4_readFee_30 : decode cX4_readFee 30 = .ok (.aload_n 0, 1) := by decide +kernel
theorem dX4_readFee_31 : decode cX4_readFee 31 = .ok (.getfield 9, 3) := by decide +kernel
theorem dX4_readFee_34 : decode cX4_readFee 34 = .ok (.invokevirtual 90, 3) := by decide +kernel
theorem dX4_readFee_37 : decode cX4_readFee 37 = .ok (.aload_n 0, 1) := by decide +kernel
theorem dX4_readFee_38 : decode cX4_readFee 38 = .ok (.iconst 0, 1) := by decide +kernel
theorem dX4_readFee_39 : decode cX4_readFee 39 = .ok (.invokevirtual 179, 3) := by decide +kernel
theorem dX4_readFee_42 : decode cX4_readFee 42 = .ok (.ireturn, 1) := by decide +kernel
set_option maxRecDepth 20000 in
theorem ggX4_readExpr_X4_refuse : GoodIn wsX4_readExpr wsX4_refuse := goodIn_r _ [9, 10, 153, 154, 155] rfl (by decide +kernel)
set_option maxRecDepth 20000 in
theorem gX4_readExpr_X4_refuse : GoodIn wsX4_readExpr (wsV RX4 87 RX4 yX4_refuse wsX4_refuse) := goodIn_app (goodIn_of _ (by decide +kernel)) ggX4_readExpr_X4_refuse
set_option maxRecDepth 20000 in
theorem ggX4_readExpr_X4_readAnd : GoodIn wsX4_readExpr wsX4_readAnd := goodIn_r _ [117, 1, 3, 118, 119, 120, 121, 8, 14, 15, 16, 17, 18, 19, 20, 21, 22, 23, 24, 25, 26, 27, 28, 29, 30, 31, 32, 33, 34, 35, 36, 37, 38, 39, 40, 41, 42, 43, 44, 45, 46, 47, 48, 49, 50, 51, 52, 53, 54, 55, 56, 57, 58, 59, 60, 61, 62, 63, 64, 65, 66, 67, 68, 69, 70, 71, 72, 73, 74, 75, 76, 77, 78, 79, 80, 81, 82, 83, 84, 85, 86, 87, 88, 89, 90, 91, 92, 93, 94, 95, 96, 97, 98, 99, 100, 101, 102, 103, 104, 105, 106, 107, 108, 109, 110, 111, 112, 113, 114, 115, 116, 0, 2, 4, 5, 6, 7, 9, 10, 11, 12, 13, 122, 123, 124, 125, 126, 127, 128, 129, 130, 131, 132, 133, 134, 135, 136, 137, 138, 139, 140, 141, 142, 143, 144, 145, 146, 147, 148, 149, 150, 151, 152, 153, 154, 155, 156, 157, 158, 159, 160, 161, 162, 163, 164, 165, 166, 167, 168, 169, 170, 171, 172, 173, 174, 175, 176, 177, 178, 179, 180, 181, 182, 183] rfl (by decide +kernel)
set_option maxRecDepth 20000 in
theorem gX4_readExpr_X4_readAnd : GoodIn wsX4_readExpr (wsV RX4 182 RX4 yX4_readAnd wsX4_readAnd) := goodIn_app (goodIn_of _ (by decide +kernel)) ggX4_readExpr_X4_readAnd
set_option maxRecDepth 20000 in
theorem ggX4_readExpr_X9_advance : GoodIn wsX4_readExpr wsX9_advance := goodIn_r _ [18, 19, 20, 21, 22, 23, 24, 25, 26, 27, 28, 17, 29, 30, 31, 32, 33, 34, 35, 36, 37, 38, 39, 40, 41, 42, 43, 44, 45, 46, 47, 48, 49, 50, 51, 52, 53, 54, 55, 56, 57, 58, 59, 60, 61, 62, 63, 64, 65, 66, 67, 68, 69, 70, 71, 72, 73, 74, 75, 76, 77, 78, 79, 80, 81, 82, 83, 84, 85, 86, 87, 88, 89, 90, 91, 92, 93, 94, 95, 96, 97, 156, 157, 158, 159, 160, 161, 162, 163] rfl (by decide +kernel)
set_option maxRecDepth 20000 in
theorem gX4_readExpr_X9_advance : GoodIn wsX4_readExpr (wsV RX4 90 RX9 yX9_advance wsX9_advance) := goodIn_app (goodIn_of _ (by decide +kernel)) ggX4_readExpr_X9_advance
set_option maxRecDepth 20000 in
theorem ggX4_readExpr_X4_put : GoodIn wsX4_readExpr wsX4_put := goodIn_r _ [101, 102, 103, 104, 105, 106, 107, 108, 109, 110, 111, 112, 113, 114, 115, 116, 153, 154, 155, 164, 165, 166, 167, 168, 169, 170, 171, 172, 173, 174, 175, 176, 177, 178, 179, 180, 181, 182, 183] rfl (by decide +kernel)
set_option maxRecDepth 20000 in
theorem gX4_readExpr_X4_put : GoodIn wsX4_readExpr (wsV RX4 188 RX4 yX4_put wsX4_put) := goodIn_app (goodIn_of _ (by decide +kernel)) ggX4_readExpr_X4_put
theorem dX4_readExpr_0 : decode cX4_readExpr 0 = .ok (.iload_n 1, 1) := by decide +kernel
theorem dX4_readExpr_1 : decode cX4_readExpr 1 = .ok (.iconst 5, 1) := by decide +kernel
theorem dX4_readExpr_2 : decode cX4_readExpr 2 = .ok (.if_icmp .le 57, 3) := by decide +kernel
theorem dX4_readExpr_5 : decode cX4_readExpr 5 = .ok (.aload_n 0, 1) := by decide +kernel
theorem dX4_readExpr_6 : decode cX4_readExpr 6 = .ok (.getfield 9, 3) := by decide +kernel
theorem dX4_readExpr_9 : decode cX4_readExpr 9 = .ok (.getfield 34, 3) := by decide +kernel
theorem dX4_readExpr_12 : decode cX4_readExpr 12 = .ok (.iconst 2, 1) := by decide +kernel
theorem dX4_readExpr_13 : decode cX4_readExpr 13 = .ok (.if_icmp .eq 26, 3) := by decide +kernel
theorem dX4_readExpr_16 : decode cX4_readExpr 16 = .ok (.aload_n 0, 1) := by decide +kernel
theorem dX4_readExpr_17 : decode cX4_readExpr 17 = .ok (.getfield 9, 3) := by decide +kernel
theorem dX4_readExpr_20 : decode cX4_readExpr 20 = .ok (.getfield 34, 3) := by decide +kernel
theorem dX4_readExpr_23 : decode cX4_readExpr 23 = .ok (.iconst 1, 1) := by decide +kernel
theorem dX4_readExpr_24 : decode cX4_readExpr 24 = .ok (.if_icmp .eq 15, 3) := by decide +kernel
theorem dX4_readExpr_27 : decode cX4_readExpr 27 = .ok (.aload_n 0, 1) := by decide +kernel
theorem dX4_readExpr_28 : decode cX4_readExpr 28 = .ok (.getfield 9, 3) := by decide +kernel
theorem dX4_readExpr_31 : decode cX4_readExpr 31 = .ok (.getfield 34, 3) := by decide +kernel
theorem dX4_readExpr_34 : decode cX4_readExpr 34 = .ok (.bipush 40, 2) := by decide +kernel
theorem dX4_readExpr_36 : decode cX4_readExpr 36 = .ok (.if_icmp .ne 7, 3) := by decide +kernel
theorem dX4_readExpr_39 : decode cX4_readExpr 39 = .ok (.iconst 1, 1) := by decide +kernel
theorem dX4_readExpr_40 : decode cX4_readExpr 40 = .ok (.goto 4, 3) := by decide +kernel
theorem dX4_readExpr_43 : decode cX4_readExpr 43 = .ok (.iconst 0, 1) := by decide +kernel
theorem dX4_readExpr_44 : decode cX4_readExpr 44 = .ok (.istore_n 2, 1) := by decide +kernel
theorem dX4_readExpr_45 : decode cX4_readExpr 45 = .ok (.aload_n 0, 1) := by decide +kernel
theorem dX4_readExpr_46 : decode cX4_readExpr 46 = .ok (.iload_n 2, 1) := by decide +kernel
theorem dX4_readExpr_47 : decode cX4_readExpr 47 = .ok (.ifCond .eq 7, 3) := by decide +kernel
theorem dX4_readExpr_50 : decode cX4_readExpr 50 = .ok (.iconst 2, 1) := by decide +kernel
theorem dX4_readExpr_51 : decode cX4_readExpr 51 = .ok (.goto 4, 3) := by decide +kernel
theorem dX4_readExpr_54 : decode cX4_readExpr 54 = .ok (.iconst 1, 1) := by decide +kernel
theorem dX4_readExpr_55 : decode cX4_readExpr 55 = .ok (.invokevirtual 87, 3) := by decide +kernel
theorem dX4_readExpr_58 : decode cX4_readExpr 58 = .ok (.ireturn, 1) := by decide +kernel
theorem dX4_readExpr_59 : decode cX4_readExpr 59 = .ok (.aload_n 0, 1) := by decide +kernel
theorem dX4_readExpr_60 : decode cX4_readExpr 60 = .ok (.iload_n 1, 1) := by decide +kernel
theorem dX4_readExpr_61 : decode cX4_readExpr 61 = .ok (.invokevirtual 182, 3) := by decide +kernel
theorem dX4_readExpr_64 : decode cX4_readExpr 64 = .ok (.istore_n 2, 1) := by decide +kernel
theorem dX4_readExpr_65 : decode cX4_readExpr 65 = .ok (.iconst 0, 1) := by decide +kernel
theorem dX4_readExpr_66 : decode cX4_readExpr 66 = .ok (.istore_n 3, 1) := by decide +kernel
theorem dX4_readExpr_67 : decode cX4_readExpr 67 = .ok (.iload_n 3, 1) := by decide +kernel
theorem dX4_readExpr_68 : decode cX4_readExpr 68 = .ok (.sipush 700, 3) := by decide +kernel
theorem dX4_readExpr_71 : decode cX4_readExpr 71 = .ok (.if_icmp .ge 56, 3) := by decide +kernel
theorem dX4_readExpr_74 : decode cX4_readExpr 74 = .ok (.iload_n 2, 1) := by decide +kernel
theorem dX4_readExpr_75 : decode cX4_readExpr 75 = .ok (.ifCond .eq 52, 3) := by decide +kernel
theorem dX4_readExpr_78 : decode cX4_readExpr 78 = .ok (.aload_n 0, 1) := by decide +kernel
theorem dX4_readExpr_79 : decode cX4_readExpr 79 = .ok (.getfield 9, 3) := by decide +kernel
theorem dX4_readExpr_82 : decode cX4_readExpr 82 = .ok (.getfield 44, 3) := by decide +kernel
theorem dX4_readExpr_85 : decode cX4_readExpr 85 = .ok (.getstatic 185, 3) := by decide +kernel
theorem dX4_readExpr_88 : decode cX4_readExpr 88 = .ok (.if_acmp .ne 39, 3) := by decide +kernel
theorem dX4_readExpr_91 : decode cX4_readExpr 91 = .ok (.aload_n 0, 1) := by decide +kernel
theorem dX4_readExpr_92 : decode cX4_readExpr 92 = .ok (.getfield 9, 3) := by decide +kernel
theorem dX4_readExpr_95 : decode cX4_readExpr 95 = .ok (.invokevirtual 90, 3) := by decide +kernel
theorem dX4_readExpr_98 : decode cX4_readExpr 98 = .ok (.aload_n 0, 1) := by decide +kernel
theorem dX4_readExpr_99 : decode cX4_readExpr 99 = .ok (.iload_n 1, 1) := by decide +kernel
theorem dX4_readExpr_100 : decode cX4_readExpr 100 = .ok (.invokevirtual 182, 3) := by decide +kernel
theorem dX4_readExpr_103 : decode cX4_readExpr 103 = .ok (.ifCond .eq 16, 3) := by decide +kernel
theorem dX4_readExpr_106 : decode cX4_readExpr 106 = .ok (.aload_n 0, 1) := by decide +kernel
theorem dX4_readExpr_107 : decode cX4_readExpr 107 = .ok (.bipush (-10), 2) := by decide +kernel
theorem dX4_readExpr_109 : decode cX4_readExpr 109 = .ok (.invokevirtual 188, 3) := by decide +kernel
theorem dX4_readExpr_112 : decode cX4_readExpr 112 = .ok (.ifCond .eq 7, 3) := by decide +kernel
theorem dX4_readExpr_115 : decode cX4_readExpr 115 = .ok (.iconst 1, 1) := by decide +kernel
theorem dX4_readExpr_116 : decode cX4_readExpr 116 = .ok (.goto 4, 3) := by decide +kernel
theorem dX4_readExpr_119 : decode cX4_readExpr 119 = .ok (.iconst 0, 1) := by decide +kernel
theorem dX4_readExpr_120 : decode cX4_readExpr 120 = .ok (.istore_n 2, 1) := by decide +kernel
theorem dX4_readExpr_121 : decode cX4_readExpr 121 = .ok (.iinc 3 1, 3) := by decide +kernel
theorem dX4_readExpr_124 : decode cX4_readExpr 124 = .ok (.goto (-57), 3) := by decide +kernel
theorem dX4_readExpr_127 : decode cX4_readExpr 127 = .ok (.iload_n 2, 1) := by decide +kernel
theorem dX4_readExpr_128 : decode cX4_readExpr 128 = .ok (.ireturn, 1) := by decide +kernel
set_option maxRecDepth 20000 in
theorem ggX4_put_X5_append : GoodIn wsX4_put wsX5_append := goodIn_r _ [7, 8, 9, 10, 11, 12, 13, 14, 15, 31, 32, 33, 34, 35, 36, 37, 38] rfl (by decide +kernel)
set_option maxRecDepth 20000 in
theorem gX4_put_X5_append : GoodIn wsX4_put (wsV RX4 191 RX5 yX5_append wsX5_append) := goodIn_app (goodIn_of _ (by decide +kernel)) ggX4_put_X5_append
theorem dX4_put_0 : decode cX4_put 0 = .ok (.aload_n 0, 1) := by decide +kernel
theorem dX4_put_1 : decode cX4_put 1 = .ok (.getfield 15, 3) := by decide +kernel
theorem dX4_put_4 : decode cX4_put 4 = .ok (.getfield 170, 3) := by decide +kernel
theorem dX4_put_7 : decode cX4_put 7 = .ok (.iload_n 1, 1) := by decide +kernel
theorem dX4_put_8 : decode cX4_put 8 = .ok (.invokevirtual 191, 3) := by decide +kernel
theorem dX4_put_11 : decode cX4_put 11 = .ok (.iconst 1, 1) := by decide +kernel
theorem dX4_put_12 : decode cX4_put 12 = .ok (.ireturn, 1) := by decide +kernel
set_option maxRecDepth 20000 in
theorem ggX4_readAnd_X4_readNot : GoodIn wsX4_readAnd wsX4_readNot := goodIn_r _ [122, 1, 2, 123, 8, 9, 10, 11, 12, 13, 14, 15, 16, 17, 18, 19, 20, 21, 22, 23, 24, 25, 26, 27, 28, 29, 30, 31, 32, 33, 34, 35, 36, 37, 38, 39, 40, 41, 42, 43, 44, 45, 46, 47, 48, 49, 50, 51, 52, 53, 54, 55, 56, 57, 58, 59, 60, 61, 62, 63, 64, 65, 66, 67, 68, 69, 70, 71, 72, 73, 74, 75, 76, 77, 78, 79, 80, 81, 82, 83, 84, 85, 86, 87, 88, 89, 90, 91, 114, 115, 116, 7, 117, 118, 124, 125, 126, 92, 93, 94, 95, 96, 97, 98, 99, 100, 101, 102, 103, 104, 105, 106, 107, 108, 109, 110, 0, 3, 4, 5, 6, 111, 112, 113, 119, 120, 121, 127, 128, 129, 130, 131, 132, 133, 134, 135, 136, 137, 138, 139, 140, 141, 142, 143, 144, 145, 146, 147, 148, 149, 150, 151, 152, 153, 154, 155, 156, 157, 158, 159, 160, 161, 162, 163, 164, 165, 166, 167, 168, 169, 170, 171, 172, 173, 174, 175, 176, 177, 178, 179, 180, 181, 182, 183] rfl (by decide +kernel)
set_option maxRecDepth 20000 in
theorem gX4_readAnd_X4_readNot : GoodIn wsX4_readAnd (wsV RX4 194 RX4 yX4_readNot wsX4_readNot) := goodIn_app (goodIn_of _ (by decide +kernel)) ggX4_readAnd_X4_readNot
set_option maxRecDepth 20000 in
theorem ggX4_readAnd_X9_advance : GoodIn wsX4_readAnd wsX9_advance := goodIn_r _ [12, 13, 14, 15, 16, 17, 18, 19, 20, 21, 22, 11, 23, 24, 25, 26, 27, 28, 29, 30, 31, 32, 33, 34, 35, 36, 37, 38, 39, 40, 41, 42, 43, 44, 45, 46, 47, 48, 49, 50, 51, 52, 53, 54, 55, 56, 57, 58, 59, 60, 61, 62, 63, 64, 65, 66, 67, 68, 69, 70, 71, 72, 73, 74, 75, 76, 77, 78, 79, 80, 81, 82, 83, 84, 85, 86, 87, 88, 89, 90, 91, 156, 157, 158, 159, 160, 161, 162, 163] rfl (by decide +kernel)
set_option maxRecDepth 20000 in
theorem gX4_readAnd_X9_advance : GoodIn wsX4_readAnd (wsV RX4 90 RX9 yX9_advance wsX9_advance) := goodIn_app (goodIn_of _ (by decide +kernel)) ggX4_readAnd_X9_advance
set_option maxRecDepth 20000 in
theorem ggX4_readAnd_X4_put : GoodIn wsX4_readAnd wsX4_put := goodIn_r _ [95, 96, 97, 98, 99, 100, 101, 102, 103, 104, 105, 106, 107, 108, 109, 110, 153, 154, 155, 164, 165, 166, 167, 168, 169, 170, 171, 172, 173, 174, 175, 176, 177, 178, 179, 180, 181, 182, 183] rfl (by decide +kernel)
set_option maxRecDepth 20000 in
theorem gX4_readAnd_X4_put : GoodIn wsX4_readAnd (wsV RX4 188 RX4 yX4_put wsX4_put) := goodIn_app (goodIn_of _ (by decide +kernel)) ggX4_readAnd_X4_put
theorem dX4_readAnd_0 : decode cX4_readAnd 0 = .ok (.aload_n 0, 1) := by decide +kernel
theorem dX4_readAnd_1 : decode cX4_readAnd 1 = .ok (.iload_n 1, 1) := by decide +kernel
theorem dX4_readAnd_2 : decode cX4_readAnd 2 = .ok (.invokevirtual 194, 3) := by decide +kernel
theorem dX4_readAnd_5 : decode cX4_readAnd 5 = .ok (.istore_n 2, 1) := by decide +kernel
theorem dX4_readAnd_6 : decode cX4_readAnd 6 = .ok (.iconst 0, 1) := by decide +kernel
theorem dX4_readAnd_7 : decode cX4_readAnd 7 = .ok (.istore_n 3, 1) := by decide +kernel
theorem dX4_readAnd_8 : decode cX4_readAnd 8 = .ok (.iload_n 3, 1) := by decide +kernel
theorem dX4_readAnd_9 : decode cX4_readAnd 9 = .ok (.sipush 700, 3) := by decide +kernel
theorem dX4_readAnd_12 : decode cX4_readAnd 12 = .ok (.if_icmp .ge 56, 3) := by decide +kernel
theorem dX4_readAnd_15 : decode cX4_readAnd 15 = .ok (.iload_n 2, 1) := by decide +kernel
theorem dX4_readAnd_16 : decode cX4_readAnd 16 = .ok (.ifCond .eq 52, 3) := by decide +kernel
theorem dX4_readAnd_19 : decode cX4_readAnd 19 = .ok (.aload_n 0, 1) := by decide +kernel
theorem dX4_readAnd_20 : decode cX4_readAnd 20 = .ok (.getfield 9, 3) := by decide +kernel
theorem dX4_readAnd_23 : decode cX4_readAnd 23 = .ok (.getfield 44, 3) := by decide +kernel
theorem dX4_readAnd_26 : decode cX4_readAnd 26 = .ok (.getstatic 197, 3) := by decide +kernel
theorem dX4_readAnd_29 : decode cX4_readAnd 29 = .ok (.if_acmp .ne 39, 3) := by decide +kernel
theorem dX4_readAnd_32 : decode cX4_readAnd 32 = .ok (.aload_n 0, 1) := by decide +kernel
theorem dX4_readAnd_33 : decode cX4_readAnd 33 = .ok (.getfield 9, 3) := by decide +kernel
theorem dX4_readAnd_36 : decode cX4_readAnd 36 = .ok (.invokevirtual 90, 3) := by decide +kernel
theorem dX4_readAnd_39 : decode cX4_readAnd 39 = .ok (.aload_n 0, 1) := by decide +kernel
theorem dX4_readAnd_40 : decode cX4_readAnd 40 = .ok (.iload_n 1, 1) := by decide +kernel
theorem dX4_readAnd_41 : decode cX4_readAnd 41 = .ok (.invokevirtual 194, 3) := by decide +kernel
theorem dX4_readAnd_44 : decode cX4_readAnd 44 = .ok (.ifCond .eq 16, 3) := by decide +kernel
theorem dX4_readAnd_47 : decode cX4_readAnd 47 = .ok (.aload_n 0, 1) := by decide +kernel
theorem dX4_readAnd_48 : decode cX4_readAnd 48 = .ok (.bipush (-11), 2) := by decide +kernel
theorem dX4_readAnd_50 : decode cX4_readAnd 50 = .ok (.invokevirtual 188, 3) := by decide +kernel
theorem dX4_readAnd_53 : decode cX4_readAnd 53 = .ok (.ifCond .eq 7, 3) := by decide +kernel
theorem dX4_readAnd_56 : decode cX4_readAnd 56 = .ok (.iconst 1, 1) := by decide +kernel
theorem dX4_readAnd_57 : decode cX4_readAnd 57 = .ok (.goto 4, 3) := by decide +kernel
theorem dX4_readAnd_60 : decode cX4_readAnd 60 = .ok (.iconst 0, 1) := by decide +kernel
theorem dX4_readAnd_61 : decode cX4_readAnd 61 = .ok (.istore_n 2, 1) := by decide +kernel
theorem dX4_readAnd_62 : decode cX4_readAnd 62 = .ok (.iinc 3 1, 3) := by decide +kernel
theorem dX4_readAnd_65 : decode cX4_readAnd 65 = .ok (.goto (-57), 3) := by decide +kernel
theorem dX4_readAnd_68 : decode cX4_readAnd 68 = .ok (.iload_n 2, 1) := by decide +kernel
theorem dX4_readAnd_69 : decode cX4_readAnd 69 = .ok (.ireturn, 1) := by decide +kernel
set_option maxRecDepth 20000 in
theorem ggX4_readNot_X9_advance : GoodIn wsX4_readNot wsX9_advance := goodIn_r _ [8, 9, 10, 11, 12, 13, 14, 15, 16, 17, 18, 7, 19, 20, 21, 22, 23, 24, 25, 26, 27, 28, 29, 30, 31, 32, 33, 34, 35, 36, 37, 38, 39, 40, 41, 42, 43, 44, 45, 46, 47, 48, 49, 50, 51, 52, 53, 54, 55, 56, 57, 58, 59, 60, 61, 62, 63, 64, 65, 66, 67, 68, 69, 70, 71, 72, 73, 74, 75, 76, 77, 78, 79, 80, 81, 82, 83, 84, 85, 86, 87, 156, 157, 158, 159, 160, 161, 162, 163] rfl (by decide +kernel)
set_option maxRecDepth 20000 in
theorem gX4_readNot_X9_advance : GoodIn wsX4_readNot (wsV RX4 90 RX9 yX9_advance wsX9_advance) := goodIn_app (goodIn_of _ (by decide +kernel)) ggX4_readNot_X9_advance
set_option maxRecDepth 20000 in
theorem ggX4_readNot_X4_refuse : GoodIn wsX4_readNot wsX4_refuse := goodIn_r _ [92, 93, 153, 154, 155] rfl (by decide +kernel)
set_option maxRecDepth 20000 in
theorem gX4_readNot_X4_refuse : GoodIn wsX4_readNot (wsV RX4 87 RX4 yX4_refuse wsX4_refuse) := goodIn_app (goodIn_of _ (by decide +kernel)) ggX4_readNot_X4_refuse
set_option maxRecDepth 20000 in
theorem ggX4_readNot_X4_readTest : GoodIn wsX4_readNot wsX4_readTest := goodIn_r _ [149, 1, 122, 150, 151, 152, 91, 4, 5, 6, 7, 8, 9, 10, 11, 12, 13, 14, 15, 16, 17, 18, 19, 20, 21, 22, 23, 24, 25, 26, 27, 28, 29, 30, 31, 32, 33, 34, 35, 36, 37, 38, 39, 40, 41, 42, 43, 44, 45, 46, 47, 48, 49, 50, 51, 52, 53, 54, 55, 56, 57, 58, 59, 60, 61, 62, 63, 64, 65, 66, 67, 68, 69, 70, 71, 72, 73, 74, 75, 76, 77, 78, 79, 80, 81, 82, 83, 84, 85, 86, 87, 97, 98, 99, 100, 101, 102, 103, 104, 105, 106, 107, 108, 109, 110, 111, 112, 113, 114, 115, 116, 2, 117, 118, 119, 120, 121, 123, 88, 89, 90, 92, 93, 124, 125, 126, 0, 3, 94, 95, 96, 127, 128, 129, 130, 131, 132, 133, 134, 135, 136, 137, 138, 139, 140, 141, 142, 143, 144, 145, 146, 147, 148, 153, 154, 155, 156, 157, 158, 159, 160, 161, 162, 163, 164, 165, 166, 167, 168, 169, 170, 171, 172, 173, 174, 175, 176, 177, 178, 179, 180, 181, 182, 183] rfl (by decide +kernel)
set_option maxRecDepth 20000 in
theorem gX4_readNot_X4_readTest : GoodIn wsX4_readNot (wsV RX4 203 RX4 yX4_readTest wsX4_readTest) := goodIn_app (goodIn_of _ (by decide +kernel)) ggX4_readNot_X4_readTest
set_option maxRecDepth 20000 in
theorem ggX4_readNot_X4_put : GoodIn wsX4_readNot wsX4_put := goodIn_r _ [100, 101, 102, 103, 104, 105, 106, 107, 108, 109, 110, 111, 112, 113, 114, 115, 153, 154, 155, 164, 165, 166, 167, 168, 169, 170, 171, 172, 173, 174, 175, 176, 177, 178, 179, 180, 181, 182, 183] rfl (by decide +kernel)
set_option maxRecDepth 20000 in
theorem gX4_readNot_X4_put : GoodIn wsX4_readNot (wsV RX4 188 RX4 yX4_put wsX4_put) := goodIn_app (goodIn_of _ (by decide +kernel)) ggX4_readNot_X4_put
theorem dX4_readNot_0 : decode cX4_readNot 0 = .ok (.iconst 0, 1) := by decide +kernel
theorem dX4_readNot_1 : decode cX4_readNot 1 = .ok (.istore_n 2, 1) := by decide +kernel
theorem dX4_readNot_2 : decode cX4_readNot 2 = .ok (.iload_n 2, 1) := by decide +kernel
theorem dX4_readNot_3 : decode cX4_readNot 3 = .ok (.bipush 6, 2) := by decide +kernel
theorem dX4_readNot_5 : decode cX4_readNot 5 = .ok (.if_icmp .ge 29, 3) := by decide +kernel
theorem dX4_readNot_8 : decode cX4_readNot 8 = .ok (.aload_n 0, 1) := by decide +kernel
theorem dX4_readNot_9 : decode cX4_readNot 9 = .ok (.getfield 9, 3) := by decide +kernel
theorem dX4_readNot_12 : decode cX4_readNot 12 = .ok (.getfield 44, 3) := by decide +kernel
theorem dX4_readNot_15 : decode cX4_readNot 15 = .ok (.getstatic 200, 3) := by decide +kernel
theorem dX4_readNot_18 : decode cX4_readNot 18 = .ok (.if_acmp .ne 16, 3) := by decide +kernel
theorem dX4_readNot_21 : decode cX4_readNot 21 = .ok (.iinc 2 1, 3) := by decide +kernel
theorem dX4_readNot_24 : decode cX4_readNot 24 = .ok (.aload_n 0, 1) := by decide +kernel
theorem dX4_readNot_25 : decode cX4_readNot 25 = .ok (.getfield 9, 3) := by decide +kernel
theorem dX4_readNot_28 : decode cX4_readNot 28 = .ok (.invokevirtual 90, 3) := by decide +kernel
theorem dX4_readNot_31 : decode cX4_readNot 31 = .ok (.goto (-29), 3) := by decide +kernel
theorem dX4_readNot_34 : decode cX4_readNot 34 = .ok (.aload_n 0, 1) := by decide +kernel
theorem dX4_readNot_35 : decode cX4_readNot 35 = .ok (.getfield 9, 3) := by decide +kernel
theorem dX4_readNot_38 : decode cX4_readNot 38 = .ok (.getfield 44, 3) := by decide +kernel
theorem dX4_readNot_41 : decode cX4_readNot 41 = .ok (.getstatic 200, 3) := by decide +kernel
theorem dX4_readNot_44 : decode cX4_readNot 44 = .ok (.if_acmp .ne 9, 3) := by decide +kernel
theorem dX4_readNot_47 : decode cX4_readNot 47 = .ok (.aload_n 0, 1) := by decide +kernel
theorem dX4_readNot_48 : decode cX4_readNot 48 = .ok (.iconst 2, 1) := by decide +kernel
theorem dX4_readNot_49 : decode cX4_readNot 49 = .ok (.invokevirtual 87, 3) := by decide +kernel
theorem dX4_readNot_52 : decode cX4_readNot 52 = .ok (.ireturn, 1) := by decide +kernel
theorem dX4_readNot_53 : decode cX4_readNot 53 = .ok (.aload_n 0, 1) := by decide +kernel
theorem dX4_readNot_54 : decode cX4_readNot 54 = .ok (.iload_n 1, 1) := by decide +kernel
theorem dX4_readNot_55 : decode cX4_readNot 55 = .ok (.invokevirtual 203, 3) := by decide +kernel
theorem dX4_readNot_58 : decode cX4_readNot 58 = .ok (.istore_n 3, 1) := by decide +kernel
theorem dX4_readNot_59 : decode cX4_readNot 59 = .ok (.iconst 0, 1) := by decide +kernel
theorem dX4_readNot_60 : decode cX4_readNot 60 = .ok (.istore 4, 2) := by decide +kernel
theorem dX4_readNot_62 : decode cX4_readNot 62 = .ok (.iload 4, 2) := by decide +kernel
theorem dX4_readNot_64 : decode cX4_readNot 64 = .ok (.iload_n 2, 1) := by decide +kernel
theorem dX4_readNot_65 : decode cX4_readNot 65 = .ok (.if_icmp .ge 16, 3) := by decide +kernel
theorem dX4_readNot_68 : decode cX4_readNot 68 = .ok (.aload_n 0, 1) := by decide +kernel
theorem dX4_readNot_69 : decode cX4_readNot 69 = .ok (.bipush (-12), 2) := by decide +kernel
theorem dX4_readNot_71 : decode cX4_readNot 71 = .ok (.invokevirtual 188, 3) := by decide +kernel
theorem dX4_readNot_74 : decode cX4_readNot 74 = .ok (.pop, 1) := by decide +kernel
theorem dX4_readNot_75 : decode cX4_readNot 75 = .ok (.iinc 4 1, 3) := by decide +kernel
theorem dX4_readNot_78 : decode cX4_readNot 78 = .ok (.goto (-16), 3) := by decide +kernel
theorem dX4_readNot_81 : decode cX4_readNot 81 = .ok (.iload_n 3, 1) := by decide +kernel
theorem dX4_readNot_82 : decode cX4_readNot 82 = .ok (.ireturn, 1) := by decide +kernel
set_option maxRecDepth 20000 in
theorem ggX4_readTest_X4_readSum : GoodIn wsX4_readTest wsX4_readSum := goodIn_r _ [149, 1, 2, 150, 151, 152, 6, 7, 8, 9, 10, 11, 12, 13, 14, 15, 16, 17, 18, 19, 20, 21, 22, 23, 24, 25, 26, 27, 28, 29, 30, 31, 32, 33, 34, 35, 36, 37, 38, 39, 40, 41, 42, 43, 44, 45, 46, 47, 48, 49, 50, 51, 52, 53, 54, 55, 56, 57, 58, 59, 60, 61, 62, 63, 64, 65, 66, 67, 68, 69, 70, 71, 72, 73, 74, 75, 76, 77, 78, 79, 80, 81, 82, 83, 84, 85, 86, 87, 88, 89, 90, 91, 92, 93, 94, 95, 96, 97, 98, 99, 100, 101, 102, 103, 104, 105, 106, 107, 108, 109, 110, 111, 112, 113, 114, 115, 116, 117, 118, 119, 120, 121, 122, 123, 124, 125, 126, 127, 128, 129, 130, 131, 132, 133, 134, 135, 136, 137, 138, 139, 140, 141, 142, 143, 144, 145, 146, 147, 148, 0, 3, 4, 5, 153, 154, 155, 156, 157, 158, 159, 160, 161, 162, 163, 164, 165, 166, 167, 168, 169, 170, 171, 172, 173, 174, 175, 176, 177, 178, 179, 180, 181, 182, 183] rfl (by decide +kernel)
set_option maxRecDepth 20000 in
theorem gX4_readTest_X4_readSum : GoodIn wsX4_readTest (wsV RX4 206 RX4 yX4_readSum wsX4_readSum) := goodIn_app (goodIn_of _ (by decide +kernel)) ggX4_readTest_X4_readSum
set_option maxRecDepth 20000 in
theorem ggX4_readTest_X9_advance : GoodIn wsX4_readTest wsX9_advance := goodIn_r _ [11, 12, 13, 14, 15, 16, 17, 18, 19, 20, 21, 10, 22, 23, 24, 25, 26, 27, 28, 29, 30, 31, 32, 33, 34, 35, 36, 37, 38, 39, 40, 41, 42, 43, 44, 45, 46, 47, 48, 49, 50, 51, 52, 53, 54, 55, 56, 57, 58, 59, 60, 61, 62, 63, 64, 65, 66, 67, 68, 69, 70, 71, 72, 73, 74, 75, 76, 77, 78, 79, 80, 81, 82, 83, 84, 85, 86, 87, 88, 89, 90, 156, 157, 158, 159, 160, 161, 162, 163] rfl (by decide +kernel)
set_option maxRecDepth 20000 in
theorem gX4_readTest_X9_advance : GoodIn wsX4_readTest (wsV RX4 90 RX9 yX9_advance wsX9_advance) := goodIn_app (goodIn_of _ (by decide +kernel)) ggX4_readTest_X9_advance
set_option maxRecDepth 20000 in
theorem ggX4_readTest_X4_put : GoodIn wsX4_readTest wsX4_put := goodIn_r _ [94, 95, 96, 97, 98, 99, 100, 101, 102, 103, 104, 105, 106, 107, 108, 109, 153, 154, 155, 164, 165, 166, 167, 168, 169, 170, 171, 172, 173, 174, 175, 176, 177, 178, 179, 180, 181, 182, 183] rfl (by decide +kernel)
set_option maxRecDepth 20000 in
theorem gX4_readTest_X4_put : GoodIn wsX4_readTest (wsV RX4 188 RX4 yX4_put wsX4_put) := goodIn_app (goodIn_of _ (by decide +kernel)) ggX4_readTest_X4_put
theorem dX4_readTest_0 : decode cX4_readTest 0 = .ok (.aload_n 0, 1) := by decide +kernel
theorem dX4_readTest_1 : decode cX4_readTest 1 = .ok (.iload_n 1, 1) := by decide +kernel
theorem dX4_readTest_2 : decode cX4_readTest 2 = .ok (.invokevirtual 206, 3) := by decide +kernel
theorem dX4_readTest_5 : decode cX4_readTest 5 = .ok (.istore_n 2, 1) := by decide +kernel
theorem dX4_readTest_6 : decode cX4_readTest 6 = .ok (.aload_n 0, 1) := by decide +kernel
theorem dX4_readTest_7 : decode cX4_readTest 7 = .ok (.getfield 9, 3) := by decide +kernel
theorem dX4_readTest_10 : decode cX4_readTest 10 = .ok (.getfield 34, 3) := by decide +kernel
theorem dX4_readTest_13 : decode cX4_readTest 13 = .ok (.istore_n 3, 1) := by decide +kernel
theorem dX4_readTest_14 : decode cX4_readTest 14 = .ok (.iload_n 2, 1) := by decide +kernel
theorem dX4_readTest_15 : decode cX4_readTest 15 = .ok (.ifCond .eq 56, 3) := by decide +kernel
theorem dX4_readTest_18 : decode cX4_readTest 18 = .ok (.iload_n 3, 1) := by decide +kernel
theorem dX4_readTest_19 : decode cX4_readTest 19 = .ok (.bipush 60, 2) := by decide +kernel
theorem dX4_readTest_21 : decode cX4_readTest 21 = .ok (.if_icmp .eq 9, 3) := by decide +kernel
theorem dX4_readTest_24 : decode cX4_readTest 24 = .ok (.iload_n 3, 1) := by decide +kernel
theorem dX4_readTest_25 : decode cX4_readTest 25 = .ok (.bipush 61, 2) := by decide +kernel
theorem dX4_readTest_27 : decode cX4_readTest 27 = .ok (.if_icmp .ne 44, 3) := by decide +kernel
theorem dX4_readTest_30 : decode cX4_readTest 30 = .ok (.aload_n 0, 1) := by decide +kernel
theorem dX4_readTest_31 : decode cX4_readTest 31 = .ok (.getfield 9, 3) := by decide +kernel
theorem dX4_readTest_34 : decode cX4_readTest 34 = .ok (.invokevirtual 90, 3) := by decide +kernel
theorem dX4_readTest_37 : decode cX4_readTest 37 = .ok (.aload_n 0, 1) := by decide +kernel
theorem dX4_readTest_38 : decode cX4_readTest 38 = .ok (.iload_n 1, 1) := by decide +kernel
theorem dX4_readTest_39 : decode cX4_readTest 39 = .ok (.invokevirtual 206, 3) := by decide +kernel
theorem dX4_readTest_42 : decode cX4_readTest 42 = .ok (.ifCond .eq 27, 3) := by decide +kernel
theorem dX4_readTest_45 : decode cX4_readTest 45 = .ok (.aload_n 0, 1) := by decide +kernel
theorem dX4_readTest_46 : decode cX4_readTest 46 = .ok (.iload_n 3, 1) := by decide +kernel
theorem dX4_readTest_47 : decode cX4_readTest 47 = .ok (.bipush 60, 2) := by decide +kernel
theorem dX4_readTest_49 : decode cX4_readTest 49 = .ok (.if_icmp .ne 8, 3) := by decide +kernel
theorem dX4_readTest_52 : decode cX4_readTest 52 = .ok (.bipush (-13), 2) := by decide +kernel
theorem dX4_readTest_54 : decode cX4_readTest 54 = .ok (.goto 5, 3) := by decide +kernel
theorem dX4_readTest_57 : decode cX4_readTest 57 = .ok (.bipush (-14), 2) := by decide +kernel
theorem dX4_readTest_59 : decode cX4_readTest 59 = .ok (.invokevirtual 188, 3) := by decide +kernel
theorem dX4_readTest_62 : decode cX4_readTest 62 = .ok (.ifCond .eq 7, 3) := by decide +kernel
theorem dX4_readTest_65 : decode cX4_readTest 65 = .ok (.iconst 1, 1) := by decide +kernel
theorem dX4_readTest_66 : decode cX4_readTest 66 = .ok (.goto 4, 3) := by decide +kernel
theorem dX4_readTest_69 : decode cX4_readTest 69 = .ok (.iconst 0, 1) := by decide +kernel
theorem dX4_readTest_70 : decode cX4_readTest 70 = .ok (.istore_n 2, 1) := by decide +kernel
theorem dX4_readTest_71 : decode cX4_readTest 71 = .ok (.iload_n 2, 1) := by decide +kernel
theorem dX4_readTest_72 : decode cX4_readTest 72 = .ok (.ireturn, 1) := by decide +kernel
set_option maxRecDepth 20000 in
theorem ggX4_readSum_X4_readProduct : GoodIn wsX4_readSum wsX4_readProduct := goodIn_r _ [145, 1, 2, 146, 147, 148, 6, 7, 8, 9, 10, 11, 12, 13, 14, 15, 16, 17, 18, 19, 20, 21, 22, 23, 24, 25, 26, 27, 28, 29, 30, 31, 32, 33, 34, 35, 36, 37, 38, 39, 40, 41, 42, 43, 44, 45, 46, 47, 48, 49, 50, 51, 52, 53, 54, 55, 56, 57, 58, 59, 60, 61, 62, 63, 64, 65, 66, 67, 68, 69, 70, 71, 72, 73, 74, 75, 76, 77, 78, 79, 80, 81, 82, 83, 84, 85, 86, 87, 88, 89, 90, 91, 92, 93, 94, 95, 96, 97, 98, 99, 100, 101, 102, 103, 104, 105, 106, 107, 108, 109, 110, 111, 112, 113, 114, 115, 116, 117, 118, 119, 120, 121, 122, 123, 124, 125, 126, 127, 128, 129, 130, 131, 132, 133, 134, 135, 136, 137, 138, 139, 140, 141, 142, 143, 144, 0, 3, 4, 5, 149, 150, 151, 152, 153, 154, 155, 156, 157, 158, 159, 160, 161, 162, 163, 164, 165, 166, 167, 168, 169, 170, 171, 172, 173, 174, 175, 176, 177, 178, 179, 180, 181, 182, 183] rfl (by decide +kernel)
set_option maxRecDepth 20000 in
theorem gX4_readSum_X4_readProduct : GoodIn wsX4_readSum (wsV RX4 209 RX4 yX4_readProduct wsX4_readProduct) := goodIn_app (goodIn_of _ (by decide +kernel)) ggX4_readSum_X4_readProduct
set_option maxRecDepth 20000 in
theorem ggX4_readSum_X9_advance : GoodIn wsX4_readSum wsX9_advance := goodIn_r _ [11, 12, 13, 14, 15, 16, 17, 18, 19, 20, 21, 10, 22, 23, 24, 25, 26, 27, 28, 29, 30, 31, 32, 33, 34, 35, 36, 37, 38, 39, 40, 41, 42, 43, 44, 45, 46, 47, 48, 49, 50, 51, 52, 53, 54, 55, 56, 57, 58, 59, 60, 61, 62, 63, 64, 65, 66, 67, 68, 69, 70, 71, 72, 73, 74, 75, 76, 77, 78, 79, 80, 81, 82, 83, 84, 85, 86, 87, 88, 89, 90, 156, 157, 158, 159, 160, 161, 162, 163] rfl (by decide +kernel)
set_option maxRecDepth 20000 in
theorem gX4_readSum_X9_advance : GoodIn wsX4_readSum (wsV RX4 90 RX9 yX9_advance wsX9_advance) := goodIn_app (goodIn_of _ (by decide +kernel)) ggX4_readSum_X9_advance
set_option maxRecDepth 20000 in
theorem ggX4_readSum_X4_put : GoodIn wsX4_readSum wsX4_put := goodIn_r _ [94, 95, 96, 97, 98, 99, 100, 101, 102, 103, 104, 105, 106, 107, 108, 109, 153, 154, 155, 164, 165, 166, 167, 168, 169, 170, 171, 172, 173, 174, 175, 176, 177, 178, 179, 180, 181, 182, 183] rfl (by decide +kernel)
set_option maxRecDepth 20000 in
theorem gX4_readSum_X4_put : GoodIn wsX4_readSum (wsV RX4 188 RX4 yX4_put wsX4_put) := goodIn_app (goodIn_of _ (by decide +kernel)) ggX4_readSum_X4_put
theorem dX4_readSum_0 : decode cX4_readSum 0 = .ok (.aload_n 0, 1) := by decide +kernel
theorem dX4_readSum_1 : decode cX4_readSum 1 = .ok (.iload_n 1, 1) := by decide +kernel
theorem dX4_readSum_2 : decode cX4_readSum 2 = .ok (.invokevirtual 209, 3) := by decide +kernel
theorem dX4_readSum_5 : decode cX4_readSum 5 = .ok (.istore_n 2, 1) := by decide +kernel
theorem dX4_readSum_6 : decode cX4_readSum 6 = .ok (.iconst 0, 1) := by decide +kernel
theorem dX4_readSum_7 : decode cX4_readSum 7 = .ok (.istore_n 3, 1) := by decide +kernel
theorem dX4_readSum_8 : decode cX4_readSum 8 = .ok (.iload_n 3, 1) := by decide +kernel
theorem dX4_readSum_9 : decode cX4_readSum 9 = .ok (.sipush 700, 3) := by decide +kernel
theorem dX4_readSum_12 : decode cX4_readSum 12 = .ok (.if_icmp .ge 88, 3) := by decide +kernel
theorem dX4_readSum_15 : decode cX4_readSum 15 = .ok (.iload_n 2, 1) := by decide +kernel
theorem dX4_readSum_16 : decode cX4_readSum 16 = .ok (.ifCond .eq 84, 3) := by decide +kernel
theorem dX4_readSum_19 : decode cX4_readSum 19 = .ok (.aload_n 0, 1) := by decide +kernel
theorem dX4_readSum_20 : decode cX4_readSum 20 = .ok (.getfield 9, 3) := by decide +kernel
theorem dX4_readSum_23 : decode cX4_readSum 23 = .ok (.getfield 34, 3) := by decide +kernel
theorem dX4_readSum_26 : decode cX4_readSum 26 = .ok (.bipush 43, 2) := by decide +kernel
theorem dX4_readSum_28 : decode cX4_readSum 28 = .ok (.if_icmp .eq 15, 3) := by decide +kernel
theorem dX4_readSum_31 : decode cX4_readSum 31 = .ok (.aload_n 0, 1) := by decide +kernel
theorem dX4_readSum_32 : decode cX4_readSum 32 = .ok (.getfield 9, 3) := by decide +kernel
theorem dX4_readSum_35 : decode cX4_readSum 35 = .ok (.getfield 34, 3) := by decide +kernel
theorem dX4_readSum_38 : decode cX4_readSum 38 = .ok (.bipush 45, 2) := by decide +kernel
theorem dX4_readSum_40 : decode cX4_readSum 40 = .ok (.if_icmp .ne 60, 3) := by decide +kernel
theorem dX4_readSum_43 : decode cX4_readSum 43 = .ok (.aload_n 0, 1) := by decide +kernel
theorem dX4_readSum_44 : decode cX4_readSum 44 = .ok (.getfield 9, 3) := by decide +kernel
theorem dX4_readSum_47 : decode cX4_readSum 47 = .ok (.getfield 34, 3) := by decide +kernel
theorem dX4_readSum_50 : decode cX4_readSum 50 = .ok (.bipush 43, 2) := by decide +kernel
theorem dX4_readSum_52 : decode cX4_readSum 52 = .ok (.if_icmp .ne 8, 3) := by decide +kernel
theorem dX4_readSum_55 : decode cX4_readSum 55 = .ok (.bipush (-15), 2) := by decide +kernel
theorem dX4_readSum_57 : decode cX4_readSum 57 = .ok (.goto 5, 3) := by decide +kernel
theorem dX4_readSum_60 : decode cX4_readSum 60 = .ok (.bipush (-16), 2) := by decide +kernel
theorem dX4_readSum_62 : decode cX4_readSum 62 = .ok (.istore 4, 2) := by decide +kernel
theorem dX4_readSum_64 : decode cX4_readSum 64 = .ok (.aload_n 0, 1) := by decide +kernel
theorem dX4_readSum_65 : decode cX4_readSum 65 = .ok (.getfield 9, 3) := by decide +kernel
theorem dX4_readSum_68 : decode cX4_readSum 68 = .ok (.invokevirtual 90, 3) := by decide +kernel
theorem dX4_readSum_71 : decode cX4_readSum 71 = .ok (.aload_n 0, 1) := by decide +kernel
theorem dX4_readSum_72 : decode cX4_readSum 72 = .ok (.iload_n 1, 1) := by decide +kernel
theorem dX4_readSum_73 : decode cX4_readSum 73 = .ok (.invokevirtual 209, 3) := by decide +kernel
theorem dX4_readSum_76 : decode cX4_readSum 76 = .ok (.ifCond .eq 16, 3) := by decide +kernel
theorem dX4_readSum_79 : decode cX4_readSum 79 = .ok (.aload_n 0, 1) := by decide +kernel
theorem dX4_readSum_80 : decode cX4_readSum 80 = .ok (.iload 4, 2) := by decide +kernel
theorem dX4_readSum_82 : decode cX4_readSum 82 = .ok (.invokevirtual 188, 3) := by decide +kernel
theorem dX4_readSum_85 : decode cX4_readSum 85 = .ok (.ifCond .eq 7, 3) := by decide +kernel
theorem dX4_readSum_88 : decode cX4_readSum 88 = .ok (.iconst 1, 1) := by decide +kernel
theorem dX4_readSum_89 : decode cX4_readSum 89 = .ok (.goto 4, 3) := by decide +kernel
theorem dX4_readSum_92 : decode cX4_readSum 92 = .ok (.iconst 0, 1) := by decide +kernel
theorem dX4_readSum_93 : decode cX4_readSum 93 = .ok (.istore_n 2, 1) := by decide +kernel
theorem dX4_readSum_94 : decode cX4_readSum 94 = .ok (.iinc 3 1, 3) := by decide +kernel
theorem dX4_readSum_97 : decode cX4_readSum 97 = .ok (.goto (-89), 3) := by decide +kernel
theorem dX4_readSum_100 : decode cX4_readSum 100 = .ok (.iload_n 2, 1) := by decide +kernel
theorem dX4_readSum_101 : decode cX4_readSum 101 = .ok (.ireturn, 1) := by decide +kernel
set_option maxRecDepth 20000 in
theorem ggX4_readProduct_X4_readPart : GoodIn wsX4_readProduct wsX4_readPart := goodIn_r _ [131, 1, 2, 132, 111, 133, 134, 135, 136, 6, 137, 7, 8, 9, 10, 11, 12, 13, 14, 15, 16, 17, 18, 19, 20, 21, 22, 23, 24, 25, 26, 27, 28, 29, 30, 31, 32, 33, 34, 35, 36, 37, 38, 39, 40, 41, 42, 43, 44, 45, 46, 47, 48, 49, 50, 51, 52, 53, 54, 55, 56, 57, 58, 59, 60, 61, 62, 63, 64, 65, 66, 67, 68, 69, 70, 71, 72, 73, 74, 75, 76, 77, 78, 79, 80, 81, 82, 83, 84, 85, 86, 87, 88, 89, 90, 91, 92, 93, 94, 95, 96, 97, 98, 99, 100, 101, 102, 103, 104, 105, 106, 107, 108, 109, 118, 119, 120, 121, 122, 138, 139, 140, 141, 142, 143, 144, 110, 112, 113, 114, 115, 116, 117, 123, 124, 125, 126, 127, 128, 129, 130, 0, 3, 4, 5, 145, 146, 147, 148, 149, 150, 151, 152, 153, 154, 155, 156, 157, 158, 159, 160, 161, 162, 163, 164, 165, 166, 167, 168, 169, 170, 171, 172, 173, 174, 175, 176, 177, 178, 179, 180, 181, 182, 183] rfl (by decide +kernel)
set_option maxRecDepth 20000 in
theorem gX4_readProduct_X4_readPart : GoodIn wsX4_readProduct (wsV RX4 212 RX4 yX4_readPart wsX4_readPart) := goodIn_app (goodIn_of _ (by decide +kernel)) ggX4_readProduct_X4_readPart
set_option maxRecDepth 20000 in
theorem ggX4_readProduct_X9_advance : GoodIn wsX4_readProduct wsX9_advance := goodIn_r _ [11, 12, 13, 14, 15, 16, 17, 18, 19, 20, 21, 10, 22, 23, 24, 25, 26, 27, 28, 29, 30, 31, 32, 33, 34, 35, 36, 37, 38, 39, 40, 41, 42, 43, 44, 45, 46, 47, 48, 49, 50, 51, 52, 53, 54, 55, 56, 57, 58, 59, 60, 61, 62, 63, 64, 65, 66, 67, 68, 69, 70, 71, 72, 73, 74, 75, 76, 77, 78, 79, 80, 81, 82, 83, 84, 85, 86, 87, 88, 89, 90, 156, 157, 158, 159, 160, 161, 162, 163] rfl (by decide +kernel)
set_option maxRecDepth 20000 in
theorem gX4_readProduct_X9_advance : GoodIn wsX4_readProduct (wsV RX4 90 RX9 yX9_advance wsX9_advance) := goodIn_app (goodIn_of _ (by decide +kernel)) ggX4_readProduct_X9_advance
set_option maxRecDepth 20000 in
theorem ggX4_readProduct_X4_put : GoodIn wsX4_readProduct wsX4_put := goodIn_r _ [94, 95, 96, 97, 98, 99, 100, 101, 102, 103, 104, 105, 106, 107, 108, 109, 153, 154, 155, 164, 165, 166, 167, 168, 169, 170, 171, 172, 173, 174, 175, 176, 177, 178, 179, 180, 181, 182, 183] rfl (by decide +kernel)
set_option maxRecDepth 20000 in
theorem gX4_readProduct_X4_put : GoodIn wsX4_readProduct (wsV RX4 188 RX4 yX4_put wsX4_put) := goodIn_app (goodIn_of _ (by decide +kernel)) ggX4_readProduct_X4_put
theorem dX4_readProduct_0 : decode cX4_readProduct 0 = .ok (.aload_n 0, 1) := by decide +kernel
theorem dX4_readProduct_1 : decode cX4_readProduct 1 = .ok (.iload_n 1, 1) := by decide +kernel
theorem dX4_readProduct_2 : decode cX4_readProduct 2 = .ok (.invokevirtual 212, 3) := by decide +kernel
theorem dX4_readProduct_5 : decode cX4_readProduct 5 = .ok (.istore_n 2, 1) := by decide +kernel
theorem dX4_readProduct_6 : decode cX4_readProduct 6 = .ok (.iconst 0, 1) := by decide +kernel
theorem dX4_readProduct_7 : decode cX4_readProduct 7 = .ok (.istore_n 3, 1) := by decide +kernel
theorem dX4_readProduct_8 : decode cX4_readProduct 8 = .ok (.iload_n 3, 1) := by decide +kernel
theorem dX4_readProduct_9 : decode cX4_readProduct 9 = .ok (.sipush 700, 3) := by decide +kernel
theorem dX4_readProduct_12 : decode cX4_readProduct 12 = .ok (.if_icmp .ge 88, 3) := by decide +kernel
theorem dX4_readProduct_15 : decode cX4_readProduct 15 = .ok (.iload_n 2, 1) := by decide +kernel
theorem dX4_readProduct_16 : decode cX4_readProduct 16 = .ok (.ifCond .eq 84, 3) := by decide +kernel
theorem dX4_readProduct_19 : decode cX4_readProduct 19 = .ok (.aload_n 0, 1) := by decide +kernel
theorem dX4_readProduct_20 : decode cX4_readProduct 20 = .ok (.getfield 9, 3) := by decide +kernel
theorem dX4_readProduct_23 : decode cX4_readProduct 23 = .ok (.getfield 34, 3) := by decide +kernel
theorem dX4_readProduct_26 : decode cX4_readProduct 26 = .ok (.bipush 42, 2) := by decide +kernel
theorem dX4_readProduct_28 : decode cX4_readProduct 28 = .ok (.if_icmp .eq 15, 3) := by decide +kernel
theorem dX4_readProduct_31 : decode cX4_readProduct 31 = .ok (.aload_n 0, 1) := by decide +kernel
theorem dX4_readProduct_32 : decode cX4_readProduct 32 = .ok (.getfield 9, 3) := by decide +kernel
theorem dX4_readProduct_35 : decode cX4_readProduct 35 = .ok (.getfield 34, 3) := by decide +kernel
theorem dX4_readProduct_38 : decode cX4_readProduct 38 = .ok (.bipush 47, 2) := by decide +kernel
theorem dX4_readProduct_40 : decode cX4_readProduct 40 = .ok (.if_icmp .ne 60, 3) := by decide +kernel
theorem dX4_readProduct_43 : decode cX4_readProduct 43 = .ok (.aload_n 0, 1) := by decide +kernel
theorem dX4_readProduct_44 : decode cX4_readProduct 44 = .ok (.getfield 9, 3) := by decide +kernel
theorem dX4_readProduct_47 : decode cX4_readProduct 47 = .ok (.getfield 34, 3) := by decide +kernel
theorem dX4_readProduct_50 : decode cX4_readProduct 50 = .ok (.bipush 42, 2) := by decide +kernel
theorem dX4_readProduct_52 : decode cX4_readProduct 52 = .ok (.if_icmp .ne 8, 3) := by decide +kernel
theorem dX4_readProduct_55 : decode cX4_readProduct 55 = .ok (.bipush (-17), 2) := by decide +kernel
theorem dX4_readProduct_57 : decode cX4_readProduct 57 = .ok (.goto 5, 3) := by decide +kernel
theorem dX4_readProduct_60 : decode cX4_readProduct 60 = .ok (.bipush (-18), 2) := by decide +kernel
theorem dX4_readProduct_62 : decode cX4_readProduct 62 = .ok (.istore 4, 2) := by decide +kernel
theorem dX4_readProduct_64 : decode cX4_readProduct 64 = .ok (.aload_n 0, 1) := by decide +kernel
theorem dX4_readProduct_65 : decode cX4_readProduct 65 = .ok (.getfield 9, 3) := by decide +kernel
theorem dX4_readProduct_68 : decode cX4_readProduct 68 = .ok (.invokevirtual 90, 3) := by decide +kernel
theorem dX4_readProduct_71 : decode cX4_readProduct 71 = .ok (.aload_n 0, 1) := by decide +kernel
theorem dX4_readProduct_72 : decode cX4_readProduct 72 = .ok (.iload_n 1, 1) := by decide +kernel
theorem dX4_readProduct_73 : decode cX4_readProduct 73 = .ok (.invokevirtual 212, 3) := by decide +kernel
theorem dX4_readProduct_76 : decode cX4_readProduct 76 = .ok (.ifCond .eq 16, 3) := by decide +kernel
theorem dX4_readProduct_79 : decode cX4_readProduct 79 = .ok (.aload_n 0, 1) := by decide +kernel
theorem dX4_readProduct_80 : decode cX4_readProduct 80 = .ok (.iload 4, 2) := by decide +kernel
theorem dX4_readProduct_82 : decode cX4_readProduct 82 = .ok (.invokevirtual 188, 3) := by decide +kernel
theorem dX4_readProduct_85 : decode cX4_readProduct 85 = .ok (.ifCond .eq 7, 3) := by decide +kernel
theorem dX4_readProduct_88 : decode cX4_readProduct 88 = .ok (.iconst 1, 1) := by decide +kernel
theorem dX4_readProduct_89 : decode cX4_readProduct 89 = .ok (.goto 4, 3) := by decide +kernel
theorem dX4_readProduct_92 : decode cX4_readProduct 92 = .ok (.iconst 0, 1) := by decide +kernel
theorem dX4_readProduct_93 : decode cX4_readProduct 93 = .ok (.istore_n 2, 1) := by decide +kernel
theorem dX4_readProduct_94 : decode cX4_readProduct 94 = .ok (.iinc 3 1, 3) := by decide +kernel
theorem dX4_readProduct_97 : decode cX4_readProduct 97 = .ok (.goto (-89), 3) := by decide +kernel
theorem dX4_readProduct_100 : decode cX4_readProduct 100 = .ok (.iload_n 2, 1) := by decide +kernel
theorem dX4_readProduct_101 : decode cX4_readProduct 101 = .ok (.ireturn, 1) := by decide +kernel
set_option maxRecDepth 20000 in
theorem ggX4_readPart_X4_take : GoodIn wsX4_readPart wsX4_take := goodIn_r _ [10, 1, 11, 12, 13, 14, 15, 16, 17, 18, 19, 20, 21, 22, 23, 24, 25, 26, 27, 28, 29, 30, 31, 32, 33, 34, 35, 36, 37, 38, 39, 40, 41, 42, 43, 44, 45, 46, 47, 48, 49, 50, 51, 52, 53, 54, 55, 56, 57, 58, 59, 60, 61, 62, 63, 64, 65, 66, 67, 68, 69, 70, 71, 72, 73, 74, 75, 76, 77, 78, 79, 80, 81, 82, 83, 84, 85, 86, 87, 88, 89, 90, 91, 92, 93, 94, 95, 96, 97, 9, 98, 99, 100, 101, 102, 103, 104, 105, 106, 107, 108, 109, 110, 111, 112, 113, 153, 154, 155, 156, 157, 158, 159, 160, 161, 162, 163, 164, 165, 166, 167, 168, 169, 170, 171, 172, 173, 174, 175, 176, 177, 178, 179, 180, 181, 182, 183] rfl (by decide +kernel)
set_option maxRecDepth 20000 in
theorem gX4_readPart_X4_take : GoodIn wsX4_readPart (wsV RX4 215 RX4 yX4_take wsX4_take) := goodIn_app (goodIn_of _ (by decide +kernel)) ggX4_readPart_X4_take
set_option maxRecDepth 20000 in
theorem ggX4_readPart_X4_refuse : GoodIn wsX4_readPart wsX4_refuse := goodIn_r _ [117, 118, 153, 154, 155] rfl (by decide +kernel)
set_option maxRecDepth 20000 in
theorem gX4_readPart_X4_refuse : GoodIn wsX4_readPart (wsV RX4 87 RX4 yX4_refuse wsX4_refuse) := goodIn_app (goodIn_of _ (by decide +kernel)) ggX4_readPart_X4_refuse
set_option maxRecDepth 20000 in
theorem ggX4_readPart_X9_advance : GoodIn wsX4_readPart wsX9_advance := goodIn_r _ [15, 16, 17, 18, 19, 20, 21, 22, 23, 24, 25, 14, 26, 27, 28, 29, 30, 31, 32, 33, 34, 35, 36, 37, 38, 39, 40, 41, 42, 43, 44, 45, 46, 47, 48, 49, 50, 51, 52, 53, 54, 55, 56, 57, 58, 59, 60, 61, 62, 63, 64, 65, 66, 67, 68, 69, 70, 71, 72, 73, 74, 75, 76, 77, 78, 79, 80, 81, 82, 83, 84, 85, 86, 87, 88, 89, 90, 91, 92, 93, 94, 156, 157, 158, 159, 160, 161, 162, 163] rfl (by decide +kernel)
set_option maxRecDepth 20000 in
theorem gX4_readPart_X9_advance : GoodIn wsX4_readPart (wsV RX4 90 RX9 yX9_advance wsX9_advance) := goodIn_app (goodIn_of _ (by decide +kernel)) ggX4_readPart_X9_advance
set_option maxRecDepth 20000 in
theorem ggX4_readPart_X4_readExpr : GoodIn wsX4_readPart wsX4_readExpr := goodIn_r _ [131, 1, 2, 4, 132, 114, 115, 116, 9, 117, 118, 133, 134, 135, 11, 12, 13, 14, 15, 16, 17, 18, 19, 20, 21, 22, 23, 24, 25, 26, 27, 28, 29, 30, 31, 32, 33, 34, 35, 36, 37, 38, 39, 40, 41, 42, 43, 44, 45, 46, 47, 48, 49, 50, 51, 52, 53, 54, 55, 56, 57, 58, 59, 60, 61, 62, 63, 64, 65, 66, 67, 68, 69, 70, 71, 72, 73, 74, 75, 76, 77, 78, 79, 80, 81, 82, 83, 84, 85, 86, 87, 88, 89, 90, 91, 92, 93, 94, 95, 96, 97, 98, 99, 100, 101, 102, 103, 104, 105, 106, 107, 108, 109, 110, 111, 112, 113, 126, 127, 128, 129, 130, 136, 137, 138, 139, 140, 0, 3, 5, 6, 7, 8, 10, 119, 120, 121, 122, 123, 124, 125, 141, 142, 143, 144, 145, 146, 147, 148, 149, 150, 151, 152, 153, 154, 155, 156, 157, 158, 159, 160, 161, 162, 163, 164, 165, 166, 167, 168, 169, 170, 171, 172, 173, 174, 175, 176, 177, 178, 179, 180, 181, 182, 183] rfl (by decide +kernel)
set_option maxRecDepth 20000 in
theorem gX4_readPart_X4_readExpr : GoodIn wsX4_readPart (wsV RX4 179 RX4 yX4_readExpr wsX4_readExpr) := goodIn_app (goodIn_of _ (by decide +kernel)) ggX4_readPart_X4_readExpr
set_option maxRecDepth 20000 in
theorem ggX4_readPart_X4_takeClosing : GoodIn wsX4_readPart wsX4_takeClosing := goodIn_r _ [125, 1, 2, 114, 115, 116, 9, 117, 118, 11, 12, 13, 14, 15, 16, 17, 18, 19, 20, 21, 22, 23, 24, 25, 26, 27, 28, 29, 30, 31, 32, 33, 34, 35, 36, 37, 38, 39, 40, 41, 42, 43, 44, 45, 46, 47, 48, 49, 50, 51, 52, 53, 54, 55, 56, 57, 58, 59, 60, 61, 62, 63, 64, 65, 66, 67, 68, 69, 70, 71, 72, 73, 74, 75, 76, 77, 78, 79, 80, 81, 82, 83, 84, 85, 86, 87, 88, 89, 90, 91, 92, 93, 94, 153, 154, 155, 156, 157, 158, 159, 160, 161, 162, 163] rfl (by decide +kernel)
set_option maxRecDepth 20000 in
theorem gX4_readPart_X4_takeClosing : GoodIn wsX4_readPart (wsV RX4 221 RX4 yX4_takeClosing wsX4_takeClosing) := goodIn_app (goodIn_of _ (by decide +kernel)) ggX4_readPart_X4_takeClosing
theorem dX4_readPart_0 : decode cX4_readPart 0 = .ok (.aload_n 0, 1) := by decide +kernel
theorem dX4_readPart_1 : decode cX4_readPart 1 = .ok (.getfield 9, 3) := by decide +kernel
theorem dX4_readPart_4 : decode cX4_readPart 4 = .ok (.getfield 34, 3) := by decide +kernel
theorem dX4_readPart_7 : decode cX4_readPart 7 = .ok (.lookupswitch 128 #[(1, 66), (2, 33), (40, 98)], 33) := by decide +kernel
theorem dX4_readPart_40 : decode cX4_readPart 40 = .ok (.aload_n 0, 1) := by decide +kernel
theorem dX4_readPart_41 : decode cX4_readPart 41 = .ok (.getfield 9, 3) := by decide +kernel
theorem dX4_readPart_44 : decode cX4_readPart 44 = .ok (.getfield 93, 3) := by decide +kernel
theorem dX4_readPart_47 : decode cX4_readPart 47 = .ok (.sipush 9999, 3) := by decide +kernel
theorem dX4_readPart_50 : decode cX4_readPart 50 = .ok (.if_icmp .gt 17, 3) := by decide +kernel
theorem dX4_readPart_53 : decode cX4_readPart 53 = .ok (.aload_n 0, 1) := by decide +kernel
theorem dX4_readPart_54 : decode cX4_readPart 54 = .ok (.aload_n 0, 1) := by decide +kernel
theorem dX4_readPart_55 : decode cX4_readPart 55 = .ok (.getfield 9, 3) := by decide +kernel
theorem dX4_readPart_58 : decode cX4_readPart 58 = .ok (.getfield 93, 3) := by decide +kernel
theorem dX4_readPart_61 : decode cX4_readPart 61 = .ok (.invokevirtual 215, 3) := by decide +kernel
theorem dX4_readPart_64 : decode cX4_readPart 64 = .ok (.goto 8, 3) := by decide +kernel
theorem dX4_readPart_67 : decode cX4_readPart 67 = .ok (.aload_n 0, 1) := by decide +kernel
theorem dX4_readPart_68 : decode cX4_readPart 68 = .ok (.iconst 2, 1) := by decide +kernel
theorem dX4_readPart_69 : decode cX4_readPart 69 = .ok (.invokevirtual 87, 3) := by decide +kernel
theorem dX4_readPart_72 : decode cX4_readPart 72 = .ok (.ireturn, 1) := by decide +kernel
theorem dX4_readPart_73 : decode cX4_readPart 73 = .ok (.aload_n 0, 1) := by decide +kernel
theorem dX4_readPart_74 : decode cX4_readPart 74 = .ok (.getfield 9, 3) := by decide +kernel
theorem dX4_readPart_77 : decode cX4_readPart 77 = .ok (.getfield 44, 3) := by decide +kernel
theorem dX4_readPart_80 : decode cX4_readPart 80 = .ok (.getfield 218, 3) := by decide +kernel
theorem dX4_readPart_83 : decode cX4_readPart 83 = .ok (.istore_n 2, 1) := by decide +kernel
theorem dX4_readPart_84 : decode cX4_readPart 84 = .ok (.iload_n 2, 1) := by decide +kernel
theorem dX4_readPart_85 : decode cX4_readPart 85 = .ok (.iconst (-1), 1) := by decide +kernel
theorem dX4_readPart_86 : decode cX4_readPart 86 = .ok (.if_icmp .eq 13, 3) := by decide +kernel
theorem dX4_readPart_89 : decode cX4_readPart 89 = .ok (.aload_n 0, 1) := by decide +kernel
theorem dX4_readPart_90 : decode cX4_readPart 90 = .ok (.iconst (-1), 1) := by decide +kernel
theorem dX4_readPart_91 : decode cX4_readPart 91 = .ok (.iload_n 2, 1) := by decide +kernel
theorem dX4_readPart_92 : decode cX4_readPart 92 = .ok (.isub, 1) := by decide +kernel
theorem dX4_readPart_93 : decode cX4_readPart 93 = .ok (.invokevirtual 215, 3) := by decide +kernel
theorem dX4_readPart_96 : decode cX4_readPart 96 = .ok (.goto 8, 3) := by decide +kernel
theorem dX4_readPart_99 : decode cX4_readPart 99 = .ok (.aload_n 0, 1) := by decide +kernel
theorem dX4_readPart_100 : decode cX4_readPart 100 = .ok (.iconst 3, 1) := by decide +kernel
theorem dX4_readPart_101 : decode cX4_readPart 101 = .ok (.invokevirtual 87, 3) := by decide +kernel
theorem dX4_readPart_104 : decode cX4_readPart 104 = .ok (.ireturn, 1) := by decide +kernel
theorem dX4_readPart_105 : decode cX4_readPart 105 = .ok (.aload_n 0, 1) := by decide +kernel
theorem dX4_readPart_106 : decode cX4_readPart 106 = .ok (.getfield 9, 3) := by decide +kernel
theorem dX4_readPart_109 : decode cX4_readPart 109 = .ok (.invokevirtual 90, 3) := by decide +kernel
theorem dX4_readPart_112 : decode cX4_readPart 112 = .ok (.aload_n 0, 1) := by decide +kernel
theorem dX4_readPart_113 : decode cX4_readPart 113 = .ok (.iload_n 1, 1) := by decide +kernel
theorem dX4_readPart_114 : decode cX4_readPart 114 = .ok (.iconst 1, 1) := by decide +kernel
theorem dX4_readPart_115 : decode cX4_readPart 115 = .ok (.iadd, 1) := by decide +kernel
theorem dX4_readPart_116 : decode cX4_readPart 116 = .ok (.invokevirtual 179, 3) := by decide +kernel
theorem dX4_readPart_119 : decode cX4_readPart 119 = .ok (.ifCond .eq 14, 3) := by decide +kernel
theorem dX4_readPart_122 : decode cX4_readPart 122 = .ok (.aload_n 0, 1) := by decide +kernel
theorem dX4_readPart_123 : decode cX4_readPart 123 = .ok (.invokevirtual 221, 3) := by decide +kernel
theorem dX4_readPart_126 : decode cX4_readPart 126 = .ok (.ifCond .eq 7, 3) := by decide +kernel
theorem dX4_readPart_129 : decode cX4_readPart 129 = .ok (.iconst 1, 1) := by decide +kernel
theorem dX4_readPart_130 : decode cX4_readPart 130 = .ok (.goto 4, 3) := by decide +kernel
theorem dX4_readPart_133 : decode cX4_readPart 133 = .ok (.iconst 0, 1) := by decide +kernel
theorem dX4_readPart_134 : decode cX4_readPart 134 = .ok (.ireturn, 1) := by decide +kernel
theorem dX4_readPart_135 : decode cX4_readPart 135 = .ok (.aload_n 0, 1) := by decide +kernel
theorem dX4_readPart_136 : decode cX4_readPart 136 = .ok (.iconst 1, 1) := by decide +kernel
theorem dX4_readPart_137 : decode cX4_readPart 137 = .ok (.invokevirtual 87, 3) := by decide +kernel
theorem dX4_readPart_140 : decode cX4_readPart 140 = .ok (.ireturn, 1) := by decide +kernel
set_option maxRecDepth 20000 in
theorem ggX4_take_X9_advance : GoodIn wsX4_take wsX9_advance := goodIn_r _ [6, 7, 8, 9, 10, 11, 12, 13, 14, 15, 16, 5, 17, 18, 19, 20, 21, 22, 23, 24, 25, 26, 27, 28, 29, 30, 31, 32, 33, 34, 35, 36, 37, 38, 39, 40, 41, 42, 43, 44, 45, 46, 47, 48, 49, 50, 51, 52, 53, 54, 55, 56, 57, 58, 59, 60, 61, 62, 63, 64, 65, 66, 67, 68, 69, 70, 71, 72, 73, 74, 75, 76, 77, 78, 79, 80, 81, 82, 83, 84, 85, 109, 110, 111, 112, 113, 114, 115, 116] rfl (by decide +kernel)
set_option maxRecDepth 20000 in
theorem gX4_take_X9_advance : GoodIn wsX4_take (wsV RX4 90 RX9 yX9_advance wsX9_advance) := goodIn_app (goodIn_of _ (by decide +kernel)) ggX4_take_X9_advance
set_option maxRecDepth 20000 in
theorem ggX4_take_X4_put : GoodIn wsX4_take wsX4_put := goodIn_r _ [90, 91, 92, 93, 94, 95, 96, 97, 98, 99, 100, 101, 102, 103, 104, 105, 106, 107, 108, 117, 118, 119, 120, 121, 122, 123, 124, 125, 126, 127, 128, 129, 130, 131, 132, 133, 134, 135, 136] rfl (by decide +kernel)
set_option maxRecDepth 20000 in
theorem gX4_take_X4_put : GoodIn wsX4_take (wsV RX4 188 RX4 yX4_put wsX4_put) := goodIn_app (goodIn_of _ (by decide +kernel)) ggX4_take_X4_put
theorem dX4_take_0 : decode cX4_take 0 = .ok (.aload_n 0, 1) := by decide +kernel
theorem dX4_take_1 : decode cX4_take 1 = .ok (.getfield 9, 3) := by decide +kernel
theorem dX4_take_4 : decode cX4_take 4 = .ok (.invokevirtual 90, 3) := by decide +kernel
theorem dX4_take_7 : decode cX4_take 7 = .ok (.aload_n 0, 1) := by decide +kernel
theorem dX4_take_8 : decode cX4_take 8 = .ok (.iload_n 1, 1) := by decide +kernel
theorem dX4_take_9 : decode cX4_take 9 = .ok (.invokevirtual 188, 3) := by decide +kernel
theorem dX4_take_12 : decode cX4_take 12 = .ok (.ireturn, 1) := by decide +kernel
set_option maxRecDepth 20000 in
theorem ggX4_takeClosing_X4_refuse : GoodIn wsX4_takeClosing wsX4_refuse := goodIn_r _ [7, 8, 93, 94, 95] rfl (by decide +kernel)
set_option maxRecDepth 20000 in
theorem gX4_takeClosing_X4_refuse : GoodIn wsX4_takeClosing (wsV RX4 87 RX4 yX4_refuse wsX4_refuse) := goodIn_app (goodIn_of _ (by decide +kernel)) ggX4_takeClosing_X4_refuse
set_option maxRecDepth 20000 in
theorem ggX4_takeClosing_X9_advance : GoodIn wsX4_takeClosing wsX9_advance := goodIn_r _ [13, 14, 15, 16, 17, 18, 19, 20, 21, 22, 23, 12, 24, 25, 26, 27, 28, 29, 30, 31, 32, 33, 34, 35, 36, 37, 38, 39, 40, 41, 42, 43, 44, 45, 46, 47, 48, 49, 50, 51, 52, 53, 54, 55, 56, 57, 58, 59, 60, 61, 62, 63, 64, 65, 66, 67, 68, 69, 70, 71, 72, 73, 74, 75, 76, 77, 78, 79, 80, 81, 82, 83, 84, 85, 86, 87, 88, 89, 90, 91, 92, 96, 97, 98, 99, 100, 101, 102, 103] rfl (by decide +kernel)
set_option maxRecDepth 20000 in
theorem gX4_takeClosing_X9_advance : GoodIn wsX4_takeClosing (wsV RX4 90 RX9 yX9_advance wsX9_advance) := goodIn_app (goodIn_of _ (by decide +kernel)) ggX4_takeClosing_X9_advance
theorem dX4_takeClosing_0 : decode cX4_takeClosing 0 = .ok (.aload_n 0, 1) := by decide +kernel
theorem dX4_takeClosing_1 : decode cX4_takeClosing 1 = .ok (.getfield 9, 3) := by decide +kernel
theorem dX4_takeClosing_4 : decode cX4_takeClosing 4 = .ok (.getfield 34, 3) := by decide +kernel
theorem dX4_takeClosing_7 : decode cX4_takeClosing 7 = .ok (.bipush 41, 2) := by decide +kernel
theorem dX4_takeClosing_9 : decode cX4_takeClosing 9 = .ok (.if_icmp .eq 9, 3) := by decide +kernel
theorem dX4_takeClosing_12 : decode cX4_takeClosing 12 = .ok (.aload_n 0, 1) := by decide +kernel
theorem dX4_takeClosing_13 : decode cX4_takeClosing 13 = .ok (.iconst 1, 1) := by decide +kernel
theorem dX4_takeClosing_14 : decode cX4_takeClosing 14 = .ok (.invokevirtual 87, 3) := by decide +kernel
theorem dX4_takeClosing_17 : decode cX4_takeClosing 17 = .ok (.ireturn, 1) := by decide +kernel
theorem dX4_takeClosing_18 : decode cX4_takeClosing 18 = .ok (.aload_n 0, 1) := by decide +kernel
theorem dX4_takeClosing_19 : decode cX4_takeClosing 19 = .ok (.getfield 9, 3) := by decide +kernel
theorem dX4_takeClosing_22 : decode cX4_takeClosing 22 = .ok (.invokevirtual 90, 3) := by decide +kernel
theorem dX4_takeClosing_25 : decode cX4_takeClosing 25 = .ok (.iconst 1, 1) := by decide +kernel
theorem dX4_takeClosing_26 : decode cX4_takeClosing 26 = .ok (.ireturn, 1) := by decide +kernel
