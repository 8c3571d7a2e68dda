set_option maxRecDepth 20000 in
theorem ggX7_init_X8_init : GoodIn wsX7_init wsX8_init := goodIn_r _ [11, 12, 2, 3, 13, 14, 15, 16, 17, 18, 19, 20, 21] rfl (by decide +kernel)
set_option maxRecDepth 20000 in
theorem gX7_init_X8_init : GoodIn wsX7_init (wsX8_init) := ggX7_init_X8_init
theorem dX7_init_0 : decode cX7_init 0 = .ok (.aload_n 0, 1) := by decide +kernel
theorem dX7_init_1 : decode cX7_init 1 = .ok (.invokespecial 3, 3) := by decide +kernel
theorem dX7_init_4 : decode cX7_init 4 = .ok (.aload_n 0, 1) := by decide +kernel
theorem dX7_init_5 : decode cX7_init 5 = .ok (.new 9, 3) := by decide +kernel
theorem dX7_init_8 : decode cX7_init 8 = .ok (.dup, 1) := by decide +kernel
theorem dX7_init_9 : decode cX7_init 9 = .ok (.bipush 12, 2) := by decide +kernel
theorem dX7_init_11 : decode cX7_init 11 = .ok (.iconst 1, 1) := by decide +kernel
theorem dX7_init_12 : decode cX7_init 12 = .ok (.invokespecial 11, 3) := by decide +kernel
theorem dX7_init_15 : decode cX7_init 15 = .ok (.putfield 14, 3) := by decide +kernel
theorem dX7_init_18 : decode cX7_init 18 = .ok (.aload_n 0, 1) := by decide +kernel
theorem dX7_init_19 : decode cX7_init 19 = .ok (.aload_n 1, 1) := by decide +kernel
theorem dX7_init_20 : decode cX7_init 20 = .ok (.putfield 20, 3) := by decide +kernel
theorem dX7_init_23 : decode cX7_init 23 = .ok (.return_, 1) := by decide +kernel
set_option maxRecDepth 20000 in
theorem ggX7_begin_X8_at_ : GoodIn wsX7_begin wsX8_at_ := goodIn_r _ [10, 11, 12, 32, 33] rfl (by decide +kernel)
set_option maxRecDepth 20000 in
theorem gX7_begin_X8_at_ : GoodIn wsX7_begin (wsV RX7 36 RX8 yX8_at_ wsX8_at_) := goodIn_app (goodIn_of _ (by decide +kernel)) ggX7_begin_X8_at_
set_option maxRecDepth 20000 in
theorem ggX7_begin_X8_set : GoodIn wsX7_begin wsX8_set := goodIn_r _ [16, 12, 32, 33] rfl (by decide +kernel)
set_option maxRecDepth 20000 in
theorem gX7_begin_X8_set : GoodIn wsX7_begin (wsV RX7 40 RX8 yX8_set wsX8_set) := goodIn_app (goodIn_of _ (by decide +kernel)) ggX7_begin_X8_set
theorem dX7_begin_0 : decode cX7_begin 0 = .ok (.aload_n 0, 1) := by decide +kernel
theorem dX7_begin_1 : decode cX7_begin 1 = .ok (.aload_n 1, 1) := by decide +kernel
theorem dX7_begin_2 : decode cX7_begin 2 = .ok (.putfield 20, 3) := by decide +kernel
theorem dX7_begin_5 : decode cX7_begin 5 = .ok (.aload_n 0, 1) := by decide +kernel
theorem dX7_begin_6 : decode cX7_begin 6 = .ok (.iconst 0, 1) := by decide +kernel
theorem dX7_begin_7 : decode cX7_begin 7 = .ok (.putfield 24, 3) := by decide +kernel
theorem dX7_begin_10 : decode cX7_begin 10 = .ok (.iconst 0, 1) := by decide +kernel
theorem dX7_begin_11 : decode cX7_begin 11 = .ok (.istore_n 2, 1) := by decide +kernel
theorem dX7_begin_12 : decode cX7_begin 12 = .ok (.iload_n 2, 1) := by decide +kernel
theorem dX7_begin_13 : decode cX7_begin 13 = .ok (.aload_n 1, 1) := by decide +kernel
theorem dX7_begin_14 : decode cX7_begin 14 = .ok (.getfield 28, 3) := by decide +kernel
theorem dX7_begin_17 : decode cX7_begin 17 = .ok (.if_icmp .ge 26, 3) := by decide +kernel
theorem dX7_begin_20 : decode cX7_begin 20 = .ok (.aload_n 0, 1) := by decide +kernel
theorem dX7_begin_21 : decode cX7_begin 21 = .ok (.getfield 14, 3) := by decide +kernel
theorem dX7_begin_24 : decode cX7_begin 24 = .ok (.iload_n 2, 1) := by decide +kernel
theorem dX7_begin_25 : decode cX7_begin 25 = .ok (.aload_n 1, 1) := by decide +kernel
theorem dX7_begin_26 : decode cX7_begin 26 = .ok (.getfield 33, 3) := by decide +kernel
theorem dX7_begin_29 : decode cX7_begin 29 = .ok (.iload_n 2, 1) := by decide +kernel
theorem dX7_begin_30 : decode cX7_begin 30 = .ok (.iconst 5, 1) := by decide +kernel
theorem dX7_begin_31 : decode cX7_begin 31 = .ok (.invokevirtual 36, 3) := by decide +kernel
theorem dX7_begin_34 : decode cX7_begin 34 = .ok (.invokevirtual 40, 3) := by decide +kernel
theorem dX7_begin_37 : decode cX7_begin 37 = .ok (.iinc 2 1, 3) := by decide +kernel
theorem dX7_begin_40 : decode cX7_begin 40 = .ok (.goto (-28), 3) := by decide +kernel
theorem dX7_begin_43 : decode cX7_begin 43 = .ok (.return_, 1) := by decide +kernel
set_option maxRecDepth 20000 in
theorem ggX7_become_X8_become : GoodIn wsX7_become wsX8_become := goodIn_r _ [8, 9, 10, 11, 12, 7, 13, 17, 18] rfl (by decide +kernel)
set_option maxRecDepth 20000 in
theorem gX7_become_X8_become : GoodIn wsX7_become (wsV RX7 43 RX8 yX8_become wsX8_become) := goodIn_app (goodIn_of _ (by decide +kernel)) ggX7_become_X8_become
theorem dX7_become_0 : decode cX7_become 0 = .ok (.aload_n 0, 1) := by decide +kernel
theorem dX7_become_1 : decode cX7_become 1 = .ok (.aload_n 1, 1) := by decide +kernel
theorem dX7_become_2 : decode cX7_become 2 = .ok (.getfield 20, 3) := by decide +kernel
theorem dX7_become_5 : decode cX7_become 5 = .ok (.putfield 20, 3) := by decide +kernel
theorem dX7_become_8 : decode cX7_become 8 = .ok (.aload_n 0, 1) := by decide +kernel
theorem dX7_become_9 : decode cX7_become 9 = .ok (.getfield 14, 3) := by decide +kernel
theorem dX7_become_12 : decode cX7_become 12 = .ok (.aload_n 1, 1) := by decide +kernel
theorem dX7_become_13 : decode cX7_become 13 = .ok (.getfield 14, 3) := by decide +kernel
theorem dX7_become_16 : decode cX7_become 16 = .ok (.invokevirtual 43, 3) := by decide +kernel
theorem dX7_become_19 : decode cX7_become 19 = .ok (.aload_n 0, 1) := by decide +kernel
theorem dX7_become_20 : decode cX7_become 20 = .ok (.aload_n 1, 1) := by decide +kernel
theorem dX7_become_21 : decode cX7_become 21 = .ok (.getfield 24, 3) := by decide +kernel
theorem dX7_become_24 : decode cX7_become 24 = .ok (.putfield 24, 3) := by decide +kernel
theorem dX7_become_27 : decode cX7_become 27 = .ok (.return_, 1) := by decide +kernel
set_option maxRecDepth 20000 in
theorem ggX7_placeOf_X8_at : GoodIn wsX7_placeOf wsX8_at := goodIn_r _ [6, 7, 11, 12] rfl (by decide +kernel)
set_option maxRecDepth 20000 in
theorem gX7_placeOf_X8_at : GoodIn wsX7_placeOf (wsV RX7 47 RX8 yX8_at wsX8_at) := goodIn_app (goodIn_of _ (by decide +kernel)) ggX7_placeOf_X8_at
theorem dX7_placeOf_0 : decode cX7_placeOf 0 = .ok (.aload_n 0, 1) := by decide +kernel
theorem dX7_placeOf_1 : decode cX7_placeOf 1 = .ok (.getfield 14, 3) := by decide +kernel
theorem dX7_placeOf_4 : decode cX7_placeOf 4 = .ok (.iload_n 1, 1) := by decide +kernel
theorem dX7_placeOf_5 : decode cX7_placeOf 5 = .ok (.invokevirtual 47, 3) := by decide +kernel
theorem dX7_placeOf_8 : decode cX7_placeOf 8 = .ok (.ireturn, 1) := by decide +kernel
set_option maxRecDepth 20000 in
theorem ggX7_thingsAt_X8_at : GoodIn wsX7_thingsAt wsX8_at := goodIn_r _ [8, 9, 25, 26] rfl (by decide +kernel)
set_option maxRecDepth 20000 in
theorem gX7_thingsAt_X8_at : GoodIn wsX7_thingsAt (wsV RX7 47 RX8 yX8_at wsX8_at) := goodIn_app (goodIn_of _ (by decide +kernel)) ggX7_thingsAt_X8_at
theorem dX7_thingsAt_0 : decode cX7_thingsAt 0 = .ok (.iconst 0, 1) := by decide +kernel
theorem dX7_thingsAt_1 : decode cX7_thingsAt 1 = .ok (.istore_n 2, 1) := by decide +kernel
theorem dX7_thingsAt_2 : decode cX7_thingsAt 2 = .ok (.iconst 0, 1) := by decide +kernel
theorem dX7_thingsAt_3 : decode cX7_thingsAt 3 = .ok (.istore_n 3, 1) := by decide +kernel
theorem dX7_thingsAt_4 : decode cX7_thingsAt 4 = .ok (.iload_n 3, 1) := by decide +kernel
theorem dX7_thingsAt_5 : decode cX7_thingsAt 5 = .ok (.aload_n 0, 1) := by decide +kernel
theorem dX7_thingsAt_6 : decode cX7_thingsAt 6 = .ok (.getfield 20, 3) := by decide +kernel
theorem dX7_thingsAt_9 : decode cX7_thingsAt 9 = .ok (.getfield 28, 3) := by decide +kernel
theorem dX7_thingsAt_12 : decode cX7_thingsAt 12 = .ok (.if_icmp .ge 27, 3) := by decide +kernel
theorem dX7_thingsAt_15 : decode cX7_thingsAt 15 = .ok (.aload_n 0, 1) := by decide +kernel
theorem dX7_thingsAt_16 : decode cX7_thingsAt 16 = .ok (.getfield 14, 3) := by decide +kernel
theorem dX7_thingsAt_19 : decode cX7_thingsAt 19 = .ok (.iload_n 3, 1) := by decide +kernel
theorem dX7_thingsAt_20 : decode cX7_thingsAt 20 = .ok (.invokevirtual 47, 3) := by decide +kernel
theorem dX7_thingsAt_23 : decode cX7_thingsAt 23 = .ok (.iload_n 1, 1) := by decide +kernel
theorem dX7_thingsAt_24 : decode cX7_thingsAt 24 = .ok (.if_icmp .ne 9, 3) := by decide +kernel
theorem dX7_thingsAt_27 : decode cX7_thingsAt 27 = .ok (.iload_n 2, 1) := by decide +kernel
theorem dX7_thingsAt_28 : decode cX7_thingsAt 28 = .ok (.iconst 1, 1) := by decide +kernel
theorem dX7_thingsAt_29 : decode cX7_thingsAt 29 = .ok (.iload_n 3, 1) := by decide +kernel
theorem dX7_thingsAt_30 : decode cX7_thingsAt 30 = .ok (.ishl, 1) := by decide +kernel
theorem dX7_thingsAt_31 : decode cX7_thingsAt 31 = .ok (.ior, 1) := by decide +kernel
theorem dX7_thingsAt_32 : decode cX7_thingsAt 32 = .ok (.istore_n 2, 1) := by decide +kernel
theorem dX7_thingsAt_33 : decode cX7_thingsAt 33 = .ok (.iinc 3 1, 3) := by decide +kernel
theorem dX7_thingsAt_36 : decode cX7_thingsAt 36 = .ok (.goto (-32), 3) := by decide +kernel
theorem dX7_thingsAt_39 : decode cX7_thingsAt 39 = .ok (.iload_n 2, 1) := by decide +kernel
theorem dX7_thingsAt_40 : decode cX7_thingsAt 40 = .ok (.ireturn, 1) := by decide +kernel
set_option maxRecDepth 20000 in
theorem ggX7_weightIn_X7_thingsAt : GoodIn wsX7_weightIn wsX7_thingsAt := goodIn_r _ [6, 1, 7, 8, 9, 10, 11, 12, 13, 14, 27, 28, 29, 30, 31, 32, 33, 34, 35, 36, 37, 38, 39, 40, 41, 42, 43] rfl (by decide +kernel)
set_option maxRecDepth 20000 in
theorem gX7_weightIn_X7_thingsAt : GoodIn wsX7_weightIn (wsV RX7 50 RX7 yX7_thingsAt wsX7_thingsAt) := goodIn_app (goodIn_of _ (by decide +kernel)) ggX7_weightIn_X7_thingsAt
set_option maxRecDepth 20000 in
theorem ggX7_weightIn_X0_sumOf : GoodIn wsX7_weightIn wsX0_sumOf := goodIn_r _ [19, 20, 21, 22, 23, 24, 12, 25, 26, 14, 30, 31, 32, 33, 34, 35, 36, 37, 38, 39, 40, 41, 42, 43] rfl (by decide +kernel)
set_option maxRecDepth 20000 in
theorem gX7_weightIn_X0_sumOf : GoodIn wsX7_weightIn (wsV RX7 53 RX0 yX0_sumOf wsX0_sumOf) := goodIn_app (goodIn_of _ (by decide +kernel)) ggX7_weightIn_X0_sumOf
theorem dX7_weightIn_0 : decode cX7_weightIn 0 = .ok (.aload_n 0, 1) := by decide +kernel
theorem dX7_weightIn_1 : decode cX7_weightIn 1 = .ok (.getfield 20, 3) := by decide +kernel
theorem dX7_weightIn_4 : decode cX7_weightIn 4 = .ok (.aload_n 0, 1) := by decide +kernel
theorem dX7_weightIn_5 : decode cX7_weightIn 5 = .ok (.iload_n 1, 1) := by decide +kernel
theorem dX7_weightIn_6 : decode cX7_weightIn 6 = .ok (.invokevirtual 50, 3) := by decide +kernel
theorem dX7_weightIn_9 : decode cX7_weightIn 9 = .ok (.iconst 1, 1) := by decide +kernel
theorem dX7_weightIn_10 : decode cX7_weightIn 10 = .ok (.invokevirtual 53, 3) := by decide +kernel
theorem dX7_weightIn_13 : decode cX7_weightIn 13 = .ok (.ireturn, 1) := by decide +kernel
set_option maxRecDepth 20000 in
theorem ggX7_sizesIn_X7_thingsAt : GoodIn wsX7_sizesIn wsX7_thingsAt := goodIn_r _ [6, 1, 7, 8, 9, 10, 11, 12, 13, 14, 27, 28, 29, 30, 31, 32, 33, 34, 35, 36, 37, 38, 39, 40, 41, 42, 43] rfl (by decide +kernel)
set_option maxRecDepth 20000 in
theorem gX7_sizesIn_X7_thingsAt : GoodIn wsX7_sizesIn (wsV RX7 50 RX7 yX7_thingsAt wsX7_thingsAt) := goodIn_app (goodIn_of _ (by decide +kernel)) ggX7_sizesIn_X7_thingsAt
set_option maxRecDepth 20000 in
theorem ggX7_sizesIn_X0_sumOf : GoodIn wsX7_sizesIn wsX0_sumOf := goodIn_r _ [19, 20, 21, 22, 23, 24, 12, 25, 26, 14, 30, 31, 32, 33, 34, 35, 36, 37, 38, 39, 40, 41, 42, 43] rfl (by decide +kernel)
set_option maxRecDepth 20000 in
theorem gX7_sizesIn_X0_sumOf : GoodIn wsX7_sizesIn (wsV RX7 53 RX0 yX0_sumOf wsX0_sumOf) := goodIn_app (goodIn_of _ (by decide +kernel)) ggX7_sizesIn_X0_sumOf
theorem dX7_sizesIn_0 : decode cX7_sizesIn 0 = .ok (.aload_n 0, 1) := by decide +kernel
theorem dX7_sizesIn_1 : decode cX7_sizesIn 1 = .ok (.getfield 20, 3) := by decide +kernel
theorem dX7_sizesIn_4 : decode cX7_sizesIn 4 = .ok (.aload_n 0, 1) := by decide +kernel
theorem dX7_sizesIn_5 : decode cX7_sizesIn 5 = .ok (.iload_n 1, 1) := by decide +kernel
theorem dX7_sizesIn_6 : decode cX7_sizesIn 6 = .ok (.invokevirtual 50, 3) := by decide +kernel
theorem dX7_sizesIn_9 : decode cX7_sizesIn 9 = .ok (.iconst 3, 1) := by decide +kernel
theorem dX7_sizesIn_10 : decode cX7_sizesIn 10 = .ok (.invokevirtual 53, 3) := by decide +kernel
theorem dX7_sizesIn_13 : decode cX7_sizesIn 13 = .ok (.ireturn, 1) := by decide +kernel
set_option maxRecDepth 20000 in
theorem ggX7_overIn_X7_weightIn : GoodIn wsX7_overIn wsX7_weightIn := goodIn_r _ [11, 1, 12, 13, 14, 10, 15, 16, 17, 18, 19, 20, 21, 22, 23, 24, 25, 26, 27, 28, 29, 30, 31, 32, 33, 34, 35, 37, 38, 39, 40, 41, 42, 43, 44, 45, 46, 47, 48, 49, 50, 51, 52, 53] rfl (by decide +kernel)
set_option maxRecDepth 20000 in
theorem gX7_overIn_X7_weightIn : GoodIn wsX7_overIn (wsV RX7 56 RX7 yX7_weightIn wsX7_weightIn) := goodIn_app (goodIn_of _ (by decide +kernel)) ggX7_overIn_X7_weightIn
set_option maxRecDepth 20000 in
theorem ggX7_overIn_X8_at_ : GoodIn wsX7_overIn wsX8_at_ := goodIn_r _ [34, 35, 23, 52, 53] rfl (by decide +kernel)
set_option maxRecDepth 20000 in
theorem gX7_overIn_X8_at_ : GoodIn wsX7_overIn (wsV RX7 36 RX8 yX8_at_ wsX8_at_) := goodIn_app (goodIn_of _ (by decide +kernel)) ggX7_overIn_X8_at_
theorem dX7_overIn_0 : decode cX7_overIn 0 = .ok (.iconst 0, 1) := by decide +kernel
theorem dX7_overIn_1 : decode cX7_overIn 1 = .ok (.aload_n 0, 1) := by decide +kernel
theorem dX7_overIn_2 : decode cX7_overIn 2 = .ok (.iload_n 1, 1) := by decide +kernel
theorem dX7_overIn_3 : decode cX7_overIn 3 = .ok (.invokevirtual 56, 3) := by decide +kernel
theorem dX7_overIn_6 : decode cX7_overIn 6 = .ok (.aload_n 0, 1) := by decide +kernel
theorem dX7_overIn_7 : decode cX7_overIn 7 = .ok (.getfield 20, 3) := by decide +kernel
theorem dX7_overIn_10 : decode cX7_overIn 10 = .ok (.getfield 59, 3) := by decide +kernel
theorem dX7_overIn_13 : decode cX7_overIn 13 = .ok (.iload_n 1, 1) := by decide +kernel
theorem dX7_overIn_14 : decode cX7_overIn 14 = .ok (.iconst 1, 1) := by decide +kernel
theorem dX7_overIn_15 : decode cX7_overIn 15 = .ok (.invokevirtual 36, 3) := by decide +kernel
theorem dX7_overIn_18 : decode cX7_overIn 18 = .ok (.isub, 1) := by decide +kernel
theorem dX7_overIn_19 : decode cX7_overIn 19 = .ok (.invokestatic 62, 3) := by decide +kernel
theorem dX7_overIn_22 : decode cX7_overIn 22 = .ok (.ireturn, 1) := by decide +kernel
set_option maxRecDepth 20000 in
theorem ggX7_feeOf_X7_thingsAt : GoodIn wsX7_feeOf wsX7_thingsAt := goodIn_r _ [5, 6, 7, 8, 9, 10, 11, 12, 13, 14, 71, 72, 73, 74, 75, 76, 77, 78, 79, 80, 81, 82, 83, 84, 85, 86, 87] rfl (by decide +kernel)
set_option maxRecDepth 20000 in
theorem gX7_feeOf_X7_thingsAt : GoodIn wsX7_feeOf (wsV RX7 50 RX7 yX7_thingsAt wsX7_thingsAt) := goodIn_app (goodIn_of _ (by decide +kernel)) ggX7_feeOf_X7_thingsAt
set_option maxRecDepth 20000 in
theorem ggX7_feeOf_X7_feeWith : GoodIn wsX7_feeOf wsX7_feeWith := goodIn_r _ [18, 6, 19, 20, 21, 22, 23, 24, 25, 26, 27, 28, 29, 30, 12, 31, 32, 14, 33, 34, 35, 36, 37, 38, 39, 40, 41, 42, 43, 44, 45, 46, 47, 48, 49, 50, 51, 52, 53, 54, 55, 56, 57, 58, 59, 60, 61, 62, 63, 10, 11, 13, 64, 65, 66, 67, 68, 69, 70, 71, 72, 73, 74, 75, 76, 77, 78, 79, 80, 81, 82, 83, 84, 85, 86, 87, 88, 89, 90, 91, 92, 93] rfl (by decide +kernel)
set_option maxRecDepth 20000 in
theorem gX7_feeOf_X7_feeWith : GoodIn wsX7_feeOf (wsV RX7 67 RX7 yX7_feeWith wsX7_feeWith) := goodIn_app (goodIn_of _ (by decide +kernel)) ggX7_feeOf_X7_feeWith
theorem dX7_feeOf_0 : decode cX7_feeOf 0 = .ok (.aload_n 0, 1) := by decide +kernel
theorem dX7_feeOf_1 : decode cX7_feeOf 1 = .ok (.iload_n 1, 1) := by decide +kernel
theorem dX7_feeOf_2 : decode cX7_feeOf 2 = .ok (.aload_n 0, 1) := by decide +kernel
theorem dX7_feeOf_3 : decode cX7_feeOf 3 = .ok (.iload_n 1, 1) := by decide +kernel
theorem dX7_feeOf_4 : decode cX7_feeOf 4 = .ok (.invokevirtual 50, 3) := by decide +kernel
theorem dX7_feeOf_7 : decode cX7_feeOf 7 = .ok (.invokevirtual 67, 3) := by decide +kernel
theorem dX7_feeOf_10 : decode cX7_feeOf 10 = .ok (.ireturn, 1) := by decide +kernel
set_option maxRecDepth 20000 in
theorem ggX7_feeWith_X0_sumOf : GoodIn wsX7_feeWith wsX0_sumOf := goodIn_r _ [8, 9, 10, 11, 12, 13, 14, 15, 16, 17, 62, 63, 64, 65, 66, 67, 68, 69, 70, 71, 72, 73, 74, 75] rfl (by decide +kernel)
set_option maxRecDepth 20000 in
theorem gX7_feeWith_X0_sumOf : GoodIn wsX7_feeWith (wsV RX7 53 RX0 yX0_sumOf wsX0_sumOf) := goodIn_app (goodIn_of _ (by decide +kernel)) ggX7_feeWith_X0_sumOf
set_option maxRecDepth 20000 in
theorem ggX7_feeWith_X8_at_ : GoodIn wsX7_feeWith wsX8_at_ := goodIn_r _ [15, 16, 17, 74, 75] rfl (by decide +kernel)
set_option maxRecDepth 20000 in
theorem gX7_feeWith_X8_at_ : GoodIn wsX7_feeWith (wsV RX7 36 RX8 yX8_at_ wsX8_at_) := goodIn_app (goodIn_of _ (by decide +kernel)) ggX7_feeWith_X8_at_
set_option maxRecDepth 20000 in
theorem ggX7_feeWith_J6_bitCount_0f7a4 : GoodIn wsX7_feeWith wsJ6_bitCount_0f7a4 := goodIn_r _ [22, 23, 24, 25] rfl (by decide +kernel)
set_option maxRecDepth 20000 in
theorem gX7_feeWith_J6_bitCount_0f7a4 : GoodIn wsX7_feeWith (va_wsS RX7 74 yJ6_bitCount_0f7a4 wsJ6_bitCount_0f7a4) := goodIn_app (goodIn_of _ (by decide +kernel)) ggX7_feeWith_J6_bitCount_0f7a4
set_option maxRecDepth 20000 in
theorem ggX7_feeWith_X5_feeFor : GoodIn wsX7_feeWith wsX5_feeFor := goodIn_r _ [30, 31, 32, 33, 34, 35, 36, 37, 38, 39, 40, 41, 42, 43, 44, 45, 46, 14, 47, 17, 48, 49, 50, 51, 52, 53, 54, 29, 55, 56, 57, 58, 76, 77, 78, 79, 80, 81, 74, 75] rfl (by decide +kernel)
set_option maxRecDepth 20000 in
theorem gX7_feeWith_X5_feeFor : GoodIn wsX7_feeWith (wsV RX7 79 RX5 yX5_feeFor wsX5_feeFor) := goodIn_app (goodIn_of _ (by decide +kernel)) ggX7_feeWith_X5_feeFor
theorem dX7_feeWith_0 : decode cX7_feeWith 0 = .ok (.aload_n 0, 1) := by decide +kernel
theorem dX7_feeWith_1 : decode cX7_feeWith 1 = .ok (.getfield 20, 3) := by decide +kernel
theorem dX7_feeWith_4 : decode cX7_feeWith 4 = .ok (.getfield 70, 3) := by decide +kernel
theorem dX7_feeWith_7 : decode cX7_feeWith 7 = .ok (.aload_n 0, 1) := by decide +kernel
theorem dX7_feeWith_8 : decode cX7_feeWith 8 = .ok (.getfield 20, 3) := by decide +kernel
theorem dX7_feeWith_11 : decode cX7_feeWith 11 = .ok (.iload_n 2, 1) := by decide +kernel
theorem dX7_feeWith_12 : decode cX7_feeWith 12 = .ok (.iconst 1, 1) := by decide +kernel
theorem dX7_feeWith_13 : decode cX7_feeWith 13 = .ok (.invokevirtual 53, 3) := by decide +kernel
theorem dX7_feeWith_16 : decode cX7_feeWith 16 = .ok (.aload_n 0, 1) := by decide +kernel
theorem dX7_feeWith_17 : decode cX7_feeWith 17 = .ok (.getfield 20, 3) := by decide +kernel
theorem dX7_feeWith_20 : decode cX7_feeWith 20 = .ok (.getfield 59, 3) := by decide +kernel
theorem dX7_feeWith_23 : decode cX7_feeWith 23 = .ok (.iload_n 1, 1) := by decide +kernel
theorem dX7_feeWith_24 : decode cX7_feeWith 24 = .ok (.iconst 1, 1) := by decide +kernel
theorem dX7_feeWith_25 : decode cX7_feeWith 25 = .ok (.invokevirtual 36, 3) := by decide +kernel
theorem dX7_feeWith_28 : decode cX7_feeWith 28 = .ok (.iload_n 2, 1) := by decide +kernel
theorem dX7_feeWith_29 : decode cX7_feeWith 29 = .ok (.invokestatic 74, 3) := by decide +kernel
theorem dX7_feeWith_32 : decode cX7_feeWith 32 = .ok (.aload_n 0, 1) := by decide +kernel
theorem dX7_feeWith_33 : decode cX7_feeWith 33 = .ok (.getfield 20, 3) := by decide +kernel
theorem dX7_feeWith_36 : decode cX7_feeWith 36 = .ok (.getfield 59, 3) := by decide +kernel
theorem dX7_feeWith_39 : decode cX7_feeWith 39 = .ok (.iload_n 1, 1) := by decide +kernel
theorem dX7_feeWith_40 : decode cX7_feeWith 40 = .ok (.iconst 4, 1) := by decide +kernel
theorem dX7_feeWith_41 : decode cX7_feeWith 41 = .ok (.invokevirtual 36, 3) := by decide +kernel
theorem dX7_feeWith_44 : decode cX7_feeWith 44 = .ok (.invokevirtual 79, 3) := by decide +kernel
theorem dX7_feeWith_47 : decode cX7_feeWith 47 = .ok (.ireturn, 1) := by decide +kernel
set_option maxRecDepth 20000 in
theorem ggX7_leastOver_X7_overIn : GoodIn wsX7_leastOver wsX7_overIn := goodIn_r _ [7, 1, 8, 9, 10, 11, 12, 13, 14, 15, 6, 16, 17, 18, 19, 20, 21, 22, 23, 24, 25, 26, 27, 28, 29, 30, 31, 32, 33, 34, 35, 36, 37, 38, 39, 40, 41, 42, 43, 44, 45, 46, 47, 48, 49, 50, 51, 52, 53, 54, 55, 56, 57, 58] rfl (by decide +kernel)
set_option maxRecDepth 20000 in
theorem gX7_leastOver_X7_overIn : GoodIn wsX7_leastOver (wsV RX7 88 RX7 yX7_overIn wsX7_overIn) := goodIn_app (goodIn_of _ (by decide +kernel)) ggX7_leastOver_X7_overIn
theorem dX7_leastOver_0 : decode cX7_leastOver 0 = .ok (.iconst 0, 1) := by decide +kernel
theorem dX7_leastOver_1 : decode cX7_leastOver 1 = .ok (.istore_n 1, 1) := by decide +kernel
theorem dX7_leastOver_2 : decode cX7_leastOver 2 = .ok (.iload_n 1, 1) := by decide +kernel
theorem dX7_leastOver_3 : decode cX7_leastOver 3 = .ok (.aload_n 0, 1) := by decide +kernel
theorem dX7_leastOver_4 : decode cX7_leastOver 4 = .ok (.getfield 20, 3) := by decide +kernel
theorem dX7_leastOver_7 : decode cX7_leastOver 7 = .ok (.getfield 85, 3) := by decide +kernel
theorem dX7_leastOver_10 : decode cX7_leastOver 10 = .ok (.if_icmp .ge 19, 3) := by decide +kernel
theorem dX7_leastOver_13 : decode cX7_leastOver 13 = .ok (.aload_n 0, 1) := by decide +kernel
theorem dX7_leastOver_14 : decode cX7_leastOver 14 = .ok (.iload_n 1, 1) := by decide +kernel
theorem dX7_leastOver_15 : decode cX7_leastOver 15 = .ok (.invokevirtual 88, 3) := by decide +kernel
theorem dX7_leastOver_18 : decode cX7_leastOver 18 = .ok (.ifCond .le 5, 3) := by decide +kernel
theorem dX7_leastOver_21 : decode cX7_leastOver 21 = .ok (.iload_n 1, 1) := by decide +kernel
theorem dX7_leastOver_22 : decode cX7_leastOver 22 = .ok (.ireturn, 1) := by decide +kernel
theorem dX7_leastOver_23 : decode cX7_leastOver 23 = .ok (.iinc 1 1, 3) := by decide +kernel
theorem dX7_leastOver_26 : decode cX7_leastOver 26 = .ok (.goto (-24), 3) := by decide +kernel
theorem dX7_leastOver_29 : decode cX7_leastOver 29 = .ok (.iconst (-1), 1) := by decide +kernel
theorem dX7_leastOver_30 : decode cX7_leastOver 30 = .ok (.ireturn, 1) := by decide +kernel
set_option maxRecDepth 20000 in
theorem ggX7_heatOn_X7_thingsAt : GoodIn wsX7_heatOn wsX7_thingsAt := goodIn_r _ [6, 1, 7, 8, 9, 10, 11, 12, 13, 14, 27, 28, 29, 30, 31, 32, 33, 34, 35, 36, 37, 38, 39, 40, 41, 42, 43] rfl (by decide +kernel)
set_option maxRecDepth 20000 in
theorem gX7_heatOn_X7_thingsAt : GoodIn wsX7_heatOn (wsV RX7 50 RX7 yX7_thingsAt wsX7_thingsAt) := goodIn_app (goodIn_of _ (by decide +kernel)) ggX7_heatOn_X7_thingsAt
set_option maxRecDepth 20000 in
theorem ggX7_heatOn_X0_sumOf : GoodIn wsX7_heatOn wsX0_sumOf := goodIn_r _ [19, 20, 21, 22, 23, 24, 12, 25, 26, 14, 30, 31, 32, 33, 34, 35, 36, 37, 38, 39, 40, 41, 42, 43] rfl (by decide +kernel)
set_option maxRecDepth 20000 in
theorem gX7_heatOn_X0_sumOf : GoodIn wsX7_heatOn (wsV RX7 53 RX0 yX0_sumOf wsX0_sumOf) := goodIn_app (goodIn_of _ (by decide +kernel)) ggX7_heatOn_X0_sumOf
theorem dX7_heatOn_0 : decode cX7_heatOn 0 = .ok (.aload_n 0, 1) := by decide +kernel
theorem dX7_heatOn_1 : decode cX7_heatOn 1 = .ok (.getfield 20, 3) := by decide +kernel
theorem dX7_heatOn_4 : decode cX7_heatOn 4 = .ok (.aload_n 0, 1) := by decide +kernel
theorem dX7_heatOn_5 : decode cX7_heatOn 5 = .ok (.bipush 10, 2) := by decide +kernel
theorem dX7_heatOn_7 : decode cX7_heatOn 7 = .ok (.iload_n 1, 1) := by decide +kernel
theorem dX7_heatOn_8 : decode cX7_heatOn 8 = .ok (.iadd, 1) := by decide +kernel
theorem dX7_heatOn_9 : decode cX7_heatOn 9 = .ok (.invokevirtual 50, 3) := by decide +kernel
theorem dX7_heatOn_12 : decode cX7_heatOn 12 = .ok (.bipush 6, 2) := by decide +kernel
theorem dX7_heatOn_14 : decode cX7_heatOn 14 = .ok (.invokevirtual 53, 3) := by decide +kernel
theorem dX7_heatOn_17 : decode cX7_heatOn 17 = .ok (.ireturn, 1) := by decide +kernel
set_option maxRecDepth 20000 in
theorem ggX7_sizesOn_X7_thingsAt : GoodIn wsX7_sizesOn wsX7_thingsAt := goodIn_r _ [6, 1, 7, 8, 9, 10, 11, 12, 13, 14, 31, 32, 33, 34, 35, 36, 37, 38, 39, 40, 41, 42, 43, 44, 45, 46, 47] rfl (by decide +kernel)
set_option maxRecDepth 20000 in
theorem gX7_sizesOn_X7_thingsAt : GoodIn wsX7_sizesOn (wsV RX7 50 RX7 yX7_thingsAt wsX7_thingsAt) := goodIn_app (goodIn_of _ (by decide +kernel)) ggX7_sizesOn_X7_thingsAt
set_option maxRecDepth 20000 in
theorem ggX7_sizesOn_X0_ofKind : GoodIn wsX7_sizesOn wsX0_ofKind := goodIn_r _ [19, 20, 21, 22, 23, 24, 12, 25, 26, 14, 34, 35, 36, 37, 38, 39, 40, 41, 42, 43, 44, 45, 46, 47] rfl (by decide +kernel)
set_option maxRecDepth 20000 in
theorem gX7_sizesOn_X0_ofKind : GoodIn wsX7_sizesOn (wsV RX7 91 RX0 yX0_ofKind wsX0_ofKind) := goodIn_app (goodIn_of _ (by decide +kernel)) ggX7_sizesOn_X0_ofKind
set_option maxRecDepth 20000 in
theorem ggX7_sizesOn_X0_sumOf : GoodIn wsX7_sizesOn wsX0_sumOf := goodIn_r _ [30, 20, 21, 22, 23, 24, 12, 25, 26, 14, 34, 35, 36, 37, 38, 39, 40, 41, 42, 43, 44, 45, 46, 47] rfl (by decide +kernel)
set_option maxRecDepth 20000 in
theorem gX7_sizesOn_X0_sumOf : GoodIn wsX7_sizesOn (wsV RX7 53 RX0 yX0_sumOf wsX0_sumOf) := goodIn_app (goodIn_of _ (by decide +kernel)) ggX7_sizesOn_X0_sumOf
theorem dX7_sizesOn_0 : decode cX7_sizesOn 0 = .ok (.aload_n 0, 1) := by decide +kernel
theorem dX7_sizesOn_1 : decode cX7_sizesOn 1 = .ok (.getfield 20, 3) := by decide +kernel
theorem dX7_sizesOn_4 : decode cX7_sizesOn 4 = .ok (.aload_n 0, 1) := by decide +kernel
theorem dX7_sizesOn_5 : decode cX7_sizesOn 5 = .ok (.bipush 10, 2) := by decide +kernel
theorem dX7_sizesOn_7 : decode cX7_sizesOn 7 = .ok (.iload_n 1, 1) := by decide +kernel
theorem dX7_sizesOn_8 : decode cX7_sizesOn 8 = .ok (.iadd, 1) := by decide +kernel
theorem dX7_sizesOn_9 : decode cX7_sizesOn 9 = .ok (.invokevirtual 50, 3) := by decide +kernel
theorem dX7_sizesOn_12 : decode cX7_sizesOn 12 = .ok (.aload_n 0, 1) := by decide +kernel
theorem dX7_sizesOn_13 : decode cX7_sizesOn 13 = .ok (.getfield 20, 3) := by decide +kernel
theorem dX7_sizesOn_16 : decode cX7_sizesOn 16 = .ok (.iconst 1, 1) := by decide +kernel
theorem dX7_sizesOn_17 : decode cX7_sizesOn 17 = .ok (.invokevirtual 91, 3) := by decide +kernel
theorem dX7_sizesOn_20 : decode cX7_sizesOn 20 = .ok (.iconst (-1), 1) := by decide +kernel
theorem dX7_sizesOn_21 : decode cX7_sizesOn 21 = .ok (.ixor, 1) := by decide +kernel
theorem dX7_sizesOn_22 : decode cX7_sizesOn 22 = .ok (.iand, 1) := by decide +kernel
theorem dX7_sizesOn_23 : decode cX7_sizesOn 23 = .ok (.iconst 3, 1) := by decide +kernel
theorem dX7_sizesOn_24 : decode cX7_sizesOn 24 = .ok (.invokevirtual 53, 3) := by decide +kernel
theorem dX7_sizesOn_27 : decode cX7_sizesOn 27 = .ok (.ireturn, 1) := by decide +kernel
set_option maxRecDepth 20000 in
theorem ggX7_hasShirt_X7_thingsAt : GoodIn wsX7_hasShirt wsX7_thingsAt := goodIn_r _ [8, 1, 9, 10, 11, 12, 13, 14, 15, 16, 34, 35, 36, 37, 38, 39, 40, 41, 42, 43, 44, 45, 46, 47, 48, 49, 50] rfl (by decide +kernel)
set_option maxRecDepth 20000 in
theorem gX7_hasShirt_X7_thingsAt : GoodIn wsX7_hasShirt (wsV RX7 50 RX7 yX7_thingsAt wsX7_thingsAt) := goodIn_app (goodIn_of _ (by decide +kernel)) ggX7_hasShirt_X7_thingsAt
set_option maxRecDepth 20000 in
theorem ggX7_hasShirt_X8_at_ : GoodIn wsX7_hasShirt wsX8_at_ := goodIn_r _ [20, 21, 16, 49, 50] rfl (by decide +kernel)
set_option maxRecDepth 20000 in
theorem gX7_hasShirt_X8_at_ : GoodIn wsX7_hasShirt (wsV RX7 36 RX8 yX8_at_ wsX8_at_) := goodIn_app (goodIn_of _ (by decide +kernel)) ggX7_hasShirt_X8_at_
set_option maxRecDepth 20000 in
theorem ggX7_hasShirt_X0_hasKind : GoodIn wsX7_hasShirt wsX0_hasKind := goodIn_r _ [26, 27, 28, 29, 25, 30, 31, 32, 33, 18, 19, 14, 20, 21, 16, 37, 38, 39, 40, 41, 42, 43, 44, 45, 46, 47, 48, 49, 50] rfl (by decide +kernel)
set_option maxRecDepth 20000 in
theorem gX7_hasShirt_X0_hasKind : GoodIn wsX7_hasShirt (wsV RX7 94 RX0 yX0_hasKind wsX0_hasKind) := goodIn_app (goodIn_of _ (by decide +kernel)) ggX7_hasShirt_X0_hasKind
theorem dX7_hasShirt_0 : decode cX7_hasShirt 0 = .ok (.aload_n 0, 1) := by decide +kernel
theorem dX7_hasShirt_1 : decode cX7_hasShirt 1 = .ok (.bipush 10, 2) := by decide +kernel
theorem dX7_hasShirt_3 : decode cX7_hasShirt 3 = .ok (.iload_n 1, 1) := by decide +kernel
theorem dX7_hasShirt_4 : decode cX7_hasShirt 4 = .ok (.iadd, 1) := by decide +kernel
theorem dX7_hasShirt_5 : decode cX7_hasShirt 5 = .ok (.invokevirtual 50, 3) := by decide +kernel
theorem dX7_hasShirt_8 : decode cX7_hasShirt 8 = .ok (.istore_n 3, 1) := by decide +kernel
theorem dX7_hasShirt_9 : decode cX7_hasShirt 9 = .ok (.iconst 0, 1) := by decide +kernel
theorem dX7_hasShirt_10 : decode cX7_hasShirt 10 = .ok (.istore 4, 2) := by decide +kernel
theorem dX7_hasShirt_12 : decode cX7_hasShirt 12 = .ok (.iload 4, 2) := by decide +kernel
theorem dX7_hasShirt_14 : decode cX7_hasShirt 14 = .ok (.aload_n 0, 1) := by decide +kernel
theorem dX7_hasShirt_15 : decode cX7_hasShirt 15 = .ok (.getfield 20, 3) := by decide +kernel
theorem dX7_hasShirt_18 : decode cX7_hasShirt 18 = .ok (.getfield 85, 3) := by decide +kernel
theorem dX7_hasShirt_21 : decode cX7_hasShirt 21 = .ok (.if_icmp .ge 41, 3) := by decide +kernel
theorem dX7_hasShirt_24 : decode cX7_hasShirt 24 = .ok (.iload 4, 2) := by decide +kernel
theorem dX7_hasShirt_26 : decode cX7_hasShirt 26 = .ok (.iload_n 2, 1) := by decide +kernel
theorem dX7_hasShirt_27 : decode cX7_hasShirt 27 = .ok (.if_icmp .eq 29, 3) := by decide +kernel
theorem dX7_hasShirt_30 : decode cX7_hasShirt 30 = .ok (.aload_n 0, 1) := by decide +kernel
theorem dX7_hasShirt_31 : decode cX7_hasShirt 31 = .ok (.getfield 20, 3) := by decide +kernel
theorem dX7_hasShirt_34 : decode cX7_hasShirt 34 = .ok (.getfield 59, 3) := by decide +kernel
theorem dX7_hasShirt_37 : decode cX7_hasShirt 37 = .ok (.iload 4, 2) := by decide +kernel
theorem dX7_hasShirt_39 : decode cX7_hasShirt 39 = .ok (.iconst 0, 1) := by decide +kernel
theorem dX7_hasShirt_40 : decode cX7_hasShirt 40 = .ok (.invokevirtual 36, 3) := by decide +kernel
theorem dX7_hasShirt_43 : decode cX7_hasShirt 43 = .ok (.iload_n 1, 1) := by decide +kernel
theorem dX7_hasShirt_44 : decode cX7_hasShirt 44 = .ok (.if_icmp .ne 12, 3) := by decide +kernel
theorem dX7_hasShirt_47 : decode cX7_hasShirt 47 = .ok (.iload_n 3, 1) := by decide +kernel
theorem dX7_hasShirt_48 : decode cX7_hasShirt 48 = .ok (.aload_n 0, 1) := by decide +kernel
theorem dX7_hasShirt_49 : decode cX7_hasShirt 49 = .ok (.iload 4, 2) := by decide +kernel
theorem dX7_hasShirt_51 : decode cX7_hasShirt 51 = .ok (.invokevirtual 50, 3) := by decide +kernel
theorem dX7_hasShirt_54 : decode cX7_hasShirt 54 = .ok (.ior, 1) := by decide +kernel
theorem dX7_hasShirt_55 : decode cX7_hasShirt 55 = .ok (.istore_n 3, 1) := by decide +kernel
theorem dX7_hasShirt_56 : decode cX7_hasShirt 56 = .ok (.iinc 4 1, 3) := by decide +kernel
theorem dX7_hasShirt_59 : decode cX7_hasShirt 59 = .ok (.goto (-47), 3) := by decide +kernel
theorem dX7_hasShirt_62 : decode cX7_hasShirt 62 = .ok (.aload_n 0, 1) := by decide +kernel
theorem dX7_hasShirt_63 : decode cX7_hasShirt 63 = .ok (.getfield 20, 3) := by decide +kernel
theorem dX7_hasShirt_66 : decode cX7_hasShirt 66 = .ok (.iload_n 3, 1) := by decide +kernel
theorem dX7_hasShirt_67 : decode cX7_hasShirt 67 = .ok (.iconst 5, 1) := by decide +kernel
theorem dX7_hasShirt_68 : decode cX7_hasShirt 68 = .ok (.invokevirtual 94, 3) := by decide +kernel
theorem dX7_hasShirt_71 : decode cX7_hasShirt 71 = .ok (.ireturn, 1) := by decide +kernel
set_option maxRecDepth 20000 in
theorem ggX7_withoutShirtIfLost_X7_hasShirt : GoodIn wsX7_withoutShirtIfLost wsX7_hasShirt := goodIn_r _ [7, 1, 8, 9, 10, 11, 12, 6, 13, 14, 15, 16, 17, 18, 19, 20, 21, 22, 23, 24, 25, 26, 27, 28, 29, 30, 31, 32, 33, 34, 35, 36, 37, 38, 39, 40, 41, 42, 43, 44, 45, 46, 47, 48, 49, 50, 51, 52, 53, 54, 55] rfl (by decide +kernel)
set_option maxRecDepth 20000 in
theorem gX7_withoutShirtIfLost_X7_hasShirt : GoodIn wsX7_withoutShirtIfLost (wsV RX7 101 RX7 yX7_hasShirt wsX7_hasShirt) := goodIn_app (goodIn_of _ (by decide +kernel)) ggX7_withoutShirtIfLost_X7_hasShirt
theorem dX7_withoutShirtIfLost_0 : decode cX7_withoutShirtIfLost 0 = .ok (.iconst 0, 1) := by decide +kernel
theorem dX7_withoutShirtIfLost_1 : decode cX7_withoutShirtIfLost 1 = .ok (.istore_n 2, 1) := by decide +kernel
theorem dX7_withoutShirtIfLost_2 : decode cX7_withoutShirtIfLost 2 = .ok (.iconst 0, 1) := by decide +kernel
theorem dX7_withoutShirtIfLost_3 : decode cX7_withoutShirtIfLost 3 = .ok (.istore_n 3, 1) := by decide +kernel
theorem dX7_withoutShirtIfLost_4 : decode cX7_withoutShirtIfLost 4 = .ok (.iload_n 3, 1) := by decide +kernel
theorem dX7_withoutShirtIfLost_5 : decode cX7_withoutShirtIfLost 5 = .ok (.aload_n 0, 1) := by decide +kernel
theorem dX7_withoutShirtIfLost_6 : decode cX7_withoutShirtIfLost 6 = .ok (.getfield 20, 3) := by decide +kernel
theorem dX7_withoutShirtIfLost_9 : decode cX7_withoutShirtIfLost 9 = .ok (.getfield 98, 3) := by decide +kernel
theorem dX7_withoutShirtIfLost_12 : decode cX7_withoutShirtIfLost 12 = .ok (.if_icmp .ge 33, 3) := by decide +kernel
theorem dX7_withoutShirtIfLost_15 : decode cX7_withoutShirtIfLost 15 = .ok (.aload_n 0, 1) := by decide +kernel
theorem dX7_withoutShirtIfLost_16 : decode cX7_withoutShirtIfLost 16 = .ok (.iload_n 3, 1) := by decide +kernel
theorem dX7_withoutShirtIfLost_17 : decode cX7_withoutShirtIfLost 17 = .ok (.iconst (-1), 1) := by decide +kernel
theorem dX7_withoutShirtIfLost_18 : decode cX7_withoutShirtIfLost 18 = .ok (.invokevirtual 101, 3) := by decide +kernel
theorem dX7_withoutShirtIfLost_21 : decode cX7_withoutShirtIfLost 21 = .ok (.ifCond .eq 18, 3) := by decide +kernel
theorem dX7_withoutShirtIfLost_24 : decode cX7_withoutShirtIfLost 24 = .ok (.aload_n 0, 1) := by decide +kernel
theorem dX7_withoutShirtIfLost_25 : decode cX7_withoutShirtIfLost 25 = .ok (.iload_n 3, 1) := by decide +kernel
theorem dX7_withoutShirtIfLost_26 : decode cX7_withoutShirtIfLost 26 = .ok (.iload_n 1, 1) := by decide +kernel
theorem dX7_withoutShirtIfLost_27 : decode cX7_withoutShirtIfLost 27 = .ok (.invokevirtual 101, 3) := by decide +kernel
theorem dX7_withoutShirtIfLost_30 : decode cX7_withoutShirtIfLost 30 = .ok (.ifCond .ne 9, 3) := by decide +kernel
theorem dX7_withoutShirtIfLost_33 : decode cX7_withoutShirtIfLost 33 = .ok (.iload_n 2, 1) := by decide +kernel
theorem dX7_withoutShirtIfLost_34 : decode cX7_withoutShirtIfLost 34 = .ok (.iconst 1, 1) := by decide +kernel
theorem dX7_withoutShirtIfLost_35 : decode cX7_withoutShirtIfLost 35 = .ok (.iload_n 3, 1) := by decide +kernel
theorem dX7_withoutShirtIfLost_36 : decode cX7_withoutShirtIfLost 36 = .ok (.ishl, 1) := by decide +kernel
theorem dX7_withoutShirtIfLost_37 : decode cX7_withoutShirtIfLost 37 = .ok (.ior, 1) := by decide +kernel
theorem dX7_withoutShirtIfLost_38 : decode cX7_withoutShirtIfLost 38 = .ok (.istore_n 2, 1) := by decide +kernel
theorem dX7_withoutShirtIfLost_39 : decode cX7_withoutShirtIfLost 39 = .ok (.iinc 3 1, 3) := by decide +kernel
theorem dX7_withoutShirtIfLost_42 : decode cX7_withoutShirtIfLost 42 = .ok (.goto (-38), 3) := by decide +kernel
theorem dX7_withoutShirtIfLost_45 : decode cX7_withoutShirtIfLost 45 = .ok (.iload_n 2, 1) := by decide +kernel
theorem dX7_withoutShirtIfLost_46 : decode cX7_withoutShirtIfLost 46 = .ok (.ireturn, 1) := by decide +kernel
set_option maxRecDepth 20000 in
theorem ggX7_mayCome_X8_at : GoodIn wsX7_mayCome wsX8_at := goodIn_r _ [8, 9, 66, 67] rfl (by decide +kernel)
set_option maxRecDepth 20000 in
theorem gX7_mayCome_X8_at : GoodIn wsX7_mayCome (wsV RX7 47 RX8 yX8_at wsX8_at) := goodIn_app (goodIn_of _ (by decide +kernel)) ggX7_mayCome_X8_at
set_option maxRecDepth 20000 in
theorem ggX7_mayCome_X0_priceOf : GoodIn wsX7_mayCome wsX0_priceOf := goodIn_r _ [14, 15, 16, 17, 18, 19, 20, 7, 21, 22, 9, 54, 55, 56, 57, 58, 59, 60, 61, 62, 63, 64, 65, 66, 67] rfl (by decide +kernel)
set_option maxRecDepth 20000 in
theorem gX7_mayCome_X0_priceOf : GoodIn wsX7_mayCome (wsV RX7 104 RX0 yX0_priceOf wsX0_priceOf) := goodIn_app (goodIn_of _ (by decide +kernel)) ggX7_mayCome_X0_priceOf
set_option maxRecDepth 20000 in
theorem ggX7_mayCome_X8_at_ : GoodIn wsX7_mayCome wsX8_at_ := goodIn_r _ [21, 22, 9, 66, 67] rfl (by decide +kernel)
set_option maxRecDepth 20000 in
theorem gX7_mayCome_X8_at_ : GoodIn wsX7_mayCome (wsV RX7 36 RX8 yX8_at_ wsX8_at_) := goodIn_app (goodIn_of _ (by decide +kernel)) ggX7_mayCome_X8_at_
set_option maxRecDepth 20000 in
theorem ggX7_mayCome_X7_mayComeInto : GoodIn wsX7_mayCome wsX7_mayComeInto := goodIn_r _ [28, 2, 29, 3, 30, 23, 19, 20, 7, 21, 22, 9, 31, 32, 33, 27, 34, 35, 1, 4, 5, 6, 8, 36, 37, 38, 13, 39, 40, 15, 18, 51, 52, 53, 54, 55, 56, 57, 58, 59, 60, 61, 62, 63, 64, 65, 66, 67] rfl (by decide +kernel)
set_option maxRecDepth 20000 in
theorem gX7_mayCome_X7_mayComeInto : GoodIn wsX7_mayCome (wsV RX7 107 RX7 yX7_mayComeInto wsX7_mayComeInto) := goodIn_app (goodIn_of _ (by decide +kernel)) ggX7_mayCome_X7_mayComeInto
set_option maxRecDepth 20000 in
theorem ggX7_mayCome_X7_mayComeOn : GoodIn wsX7_mayCome wsX7_mayComeOn := goodIn_r _ [44, 2, 45, 3, 46, 31, 32, 33, 27, 34, 35, 1, 4, 5, 6, 7, 8, 9, 23, 19, 20, 21, 22, 36, 37, 38, 13, 39, 40, 15, 18, 47, 48, 49, 50, 51, 52, 53, 54, 55, 56, 57, 58, 59, 60, 61, 62, 63, 64, 65, 66, 67] rfl (by decide +kernel)
set_option maxRecDepth 20000 in
theorem gX7_mayCome_X7_mayComeOn : GoodIn wsX7_mayCome (wsV RX7 110 RX7 yX7_mayComeOn wsX7_mayComeOn) := goodIn_app (goodIn_of _ (by decide +kernel)) ggX7_mayCome_X7_mayComeOn
theorem dX7_mayCome_0 : decode cX7_mayCome 0 = .ok (.aload_n 0, 1) := by decide +kernel
theorem dX7_mayCome_1 : decode cX7_mayCome 1 = .ok (.getfield 14, 3) := by decide +kernel
theorem dX7_mayCome_4 : decode cX7_mayCome 4 = .ok (.iload_n 1, 1) := by decide +kernel
theorem dX7_mayCome_5 : decode cX7_mayCome 5 = .ok (.invokevirtual 47, 3) := by decide +kernel
theorem dX7_mayCome_8 : decode cX7_mayCome 8 = .ok (.istore_n 3, 1) := by decide +kernel
theorem dX7_mayCome_9 : decode cX7_mayCome 9 = .ok (.iload_n 3, 1) := by decide +kernel
theorem dX7_mayCome_10 : decode cX7_mayCome 10 = .ok (.iload_n 2, 1) := by decide +kernel
theorem dX7_mayCome_11 : decode cX7_mayCome 11 = .ok (.if_icmp .eq 9, 3) := by decide +kernel
theorem dX7_mayCome_14 : decode cX7_mayCome 14 = .ok (.iload_n 3, 1) := by decide +kernel
theorem dX7_mayCome_15 : decode cX7_mayCome 15 = .ok (.bipush 20, 2) := by decide +kernel
theorem dX7_mayCome_17 : decode cX7_mayCome 17 = .ok (.if_icmp .lt 5, 3) := by decide +kernel
theorem dX7_mayCome_20 : decode cX7_mayCome 20 = .ok (.iconst 0, 1) := by decide +kernel
theorem dX7_mayCome_21 : decode cX7_mayCome 21 = .ok (.ireturn, 1) := by decide +kernel
theorem dX7_mayCome_22 : decode cX7_mayCome 22 = .ok (.iload_n 2, 1) := by decide +kernel
theorem dX7_mayCome_23 : decode cX7_mayCome 23 = .ok (.tableswitch 67 20 22 #[25, 27, 45], 25) := by decide +kernel
theorem dX7_mayCome_48 : decode cX7_mayCome 48 = .ok (.iconst 1, 1) := by decide +kernel
theorem dX7_mayCome_49 : decode cX7_mayCome 49 = .ok (.ireturn, 1) := by decide +kernel
theorem dX7_mayCome_50 : decode cX7_mayCome 50 = .ok (.aload_n 0, 1) := by decide +kernel
theorem dX7_mayCome_51 : decode cX7_mayCome 51 = .ok (.getfield 20, 3) := by decide +kernel
theorem dX7_mayCome_54 : decode cX7_mayCome 54 = .ok (.iload_n 1, 1) := by decide +kernel
theorem dX7_mayCome_55 : decode cX7_mayCome 55 = .ok (.invokevirtual 104, 3) := by decide +kernel
theorem dX7_mayCome_58 : decode cX7_mayCome 58 = .ok (.iconst (-1), 1) := by decide +kernel
theorem dX7_mayCome_59 : decode cX7_mayCome 59 = .ok (.if_icmp .eq 7, 3) := by decide +kernel
theorem dX7_mayCome_62 : decode cX7_mayCome 62 = .ok (.iconst 1, 1) := by decide +kernel
theorem dX7_mayCome_63 : decode cX7_mayCome 63 = .ok (.goto 4, 3) := by decide +kernel
theorem dX7_mayCome_66 : decode cX7_mayCome 66 = .ok (.iconst 0, 1) := by decide +kernel
theorem dX7_mayCome_67 : decode cX7_mayCome 67 = .ok (.ireturn, 1) := by decide +kernel
theorem dX7_mayCome_68 : decode cX7_mayCome 68 = .ok (.aload_n 0, 1) := by decide +kernel
theorem dX7_mayCome_69 : decode cX7_mayCome 69 = .ok (.getfield 20, 3) := by decide +kernel
theorem dX7_mayCome_72 : decode cX7_mayCome 72 = .ok (.getfield 33, 3) := by decide +kernel
theorem dX7_mayCome_75 : decode cX7_mayCome 75 = .ok (.iload_n 1, 1) := by decide +kernel
theorem dX7_mayCome_76 : decode cX7_mayCome 76 = .ok (.iconst 0, 1) := by decide +kernel
theorem dX7_mayCome_77 : decode cX7_mayCome 77 = .ok (.invokevirtual 36, 3) := by decide +kernel
theorem dX7_mayCome_80 : decode cX7_mayCome 80 = .ok (.iconst 4, 1) := by decide +kernel
theorem dX7_mayCome_81 : decode cX7_mayCome 81 = .ok (.if_icmp .ne 7, 3) := by decide +kernel
theorem dX7_mayCome_84 : decode cX7_mayCome 84 = .ok (.iconst 1, 1) := by decide +kernel
theorem dX7_mayCome_85 : decode cX7_mayCome 85 = .ok (.goto 4, 3) := by decide +kernel
theorem dX7_mayCome_88 : decode cX7_mayCome 88 = .ok (.iconst 0, 1) := by decide +kernel
theorem dX7_mayCome_89 : decode cX7_mayCome 89 = .ok (.ireturn, 1) := by decide +kernel
theorem dX7_mayCome_90 : decode cX7_mayCome 90 = .ok (.aload_n 0, 1) := by decide +kernel
theorem dX7_mayCome_91 : decode cX7_mayCome 91 = .ok (.iload_n 1, 1) := by decide +kernel
theorem dX7_mayCome_92 : decode cX7_mayCome 92 = .ok (.iload_n 2, 1) := by decide +kernel
theorem dX7_mayCome_93 : decode cX7_mayCome 93 = .ok (.invokevirtual 107, 3) := by decide +kernel
theorem dX7_mayCome_96 : decode cX7_mayCome 96 = .ok (.ifCond .ne 15, 3) := by decide +kernel
theorem dX7_mayCome_99 : decode cX7_mayCome 99 = .ok (.aload_n 0, 1) := by decide +kernel
theorem dX7_mayCome_100 : decode cX7_mayCome 100 = .ok (.iload_n 1, 1) := by decide +kernel
theorem dX7_mayCome_101 : decode cX7_mayCome 101 = .ok (.iload_n 2, 1) := by decide +kernel
theorem dX7_mayCome_102 : decode cX7_mayCome 102 = .ok (.bipush 10, 2) := by decide +kernel
theorem dX7_mayCome_104 : decode cX7_mayCome 104 = .ok (.isub, 1) := by decide +kernel
theorem dX7_mayCome_105 : decode cX7_mayCome 105 = .ok (.invokevirtual 110, 3) := by decide +kernel
theorem dX7_mayCome_108 : decode cX7_mayCome 108 = .ok (.ifCond .eq 7, 3) := by decide +kernel
theorem dX7_mayCome_111 : decode cX7_mayCome 111 = .ok (.iconst 1, 1) := by decide +kernel
theorem dX7_mayCome_112 : decode cX7_mayCome 112 = .ok (.goto 4, 3) := by decide +kernel
theorem dX7_mayCome_115 : decode cX7_mayCome 115 = .ok (.iconst 0, 1) := by decide +kernel
theorem dX7_mayCome_116 : decode cX7_mayCome 116 = .ok (.ireturn, 1) := by decide +kernel
set_option maxRecDepth 20000 in
theorem ggX7_mayComeInto_X8_at_ : GoodIn wsX7_mayComeInto wsX8_at_ := goodIn_r _ [9, 10, 11, 46, 47] rfl (by decide +kernel)
set_option maxRecDepth 20000 in
theorem gX7_mayComeInto_X8_at_ : GoodIn wsX7_mayComeInto (wsV RX7 36 RX8 yX8_at_ wsX8_at_) := goodIn_app (goodIn_of _ (by decide +kernel)) ggX7_mayComeInto_X8_at_
set_option maxRecDepth 20000 in
theorem ggX7_mayComeInto_X7_thingsAt : GoodIn wsX7_mayComeInto wsX7_thingsAt := goodIn_r _ [16, 1, 17, 18, 19, 20, 21, 8, 22, 11, 31, 32, 33, 34, 35, 36, 37, 38, 39, 40, 41, 42, 43, 44, 45, 46, 47] rfl (by decide +kernel)
set_option maxRecDepth 20000 in
theorem gX7_mayComeInto_X7_thingsAt : GoodIn wsX7_mayComeInto (wsV RX7 50 RX7 yX7_thingsAt wsX7_thingsAt) := goodIn_app (goodIn_of _ (by decide +kernel)) ggX7_mayComeInto_X7_thingsAt
set_option maxRecDepth 20000 in
theorem ggX7_mayComeInto_X0_sumOf : GoodIn wsX7_mayComeInto wsX0_sumOf := goodIn_r _ [27, 28, 29, 30, 6, 7, 8, 9, 10, 11, 34, 35, 36, 37, 38, 39, 40, 41, 42, 43, 44, 45, 46, 47] rfl (by decide +kernel)
set_option maxRecDepth 20000 in
theorem gX7_mayComeInto_X0_sumOf : GoodIn wsX7_mayComeInto (wsV RX7 53 RX0 yX0_sumOf wsX0_sumOf) := goodIn_app (goodIn_of _ (by decide +kernel)) ggX7_mayComeInto_X0_sumOf
theorem dX7_mayComeInto_0 : decode cX7_mayComeInto 0 = .ok (.iload_n 2, 1) := by decide +kernel
theorem dX7_mayComeInto_1 : decode cX7_mayComeInto 1 = .ok (.ifCond .lt 14, 3) := by decide +kernel
theorem dX7_mayComeInto_4 : decode cX7_mayComeInto 4 = .ok (.iload_n 2, 1) := by decide +kernel
theorem dX7_mayComeInto_5 : decode cX7_mayComeInto 5 = .ok (.aload_n 0, 1) := by decide +kernel
theorem dX7_mayComeInto_6 : decode cX7_mayComeInto 6 = .ok (.getfield 20, 3) := by decide +kernel
theorem dX7_mayComeInto_9 : decode cX7_mayComeInto 9 = .ok (.getfield 85, 3) := by decide +kernel
theorem dX7_mayComeInto_12 : decode cX7_mayComeInto 12 = .ok (.if_icmp .lt 5, 3) := by decide +kernel
theorem dX7_mayComeInto_15 : decode cX7_mayComeInto 15 = .ok (.iconst 0, 1) := by decide +kernel
theorem dX7_mayComeInto_16 : decode cX7_mayComeInto 16 = .ok (.ireturn, 1) := by decide +kernel
theorem dX7_mayComeInto_17 : decode cX7_mayComeInto 17 = .ok (.aload_n 0, 1) := by decide +kernel
theorem dX7_mayComeInto_18 : decode cX7_mayComeInto 18 = .ok (.getfield 20, 3) := by decide +kernel
theorem dX7_mayComeInto_21 : decode cX7_mayComeInto 21 = .ok (.getfield 33, 3) := by decide +kernel
theorem dX7_mayComeInto_24 : decode cX7_mayComeInto 24 = .ok (.iload_n 1, 1) := by decide +kernel
theorem dX7_mayComeInto_25 : decode cX7_mayComeInto 25 = .ok (.iconst 0, 1) := by decide +kernel
theorem dX7_mayComeInto_26 : decode cX7_mayComeInto 26 = .ok (.invokevirtual 36, 3) := by decide +kernel
theorem dX7_mayComeInto_29 : decode cX7_mayComeInto 29 = .ok (.iconst 2, 1) := by decide +kernel
theorem dX7_mayComeInto_30 : decode cX7_mayComeInto 30 = .ok (.if_icmp .ne 22, 3) := by decide +kernel
theorem dX7_mayComeInto_33 : decode cX7_mayComeInto 33 = .ok (.aload_n 0, 1) := by decide +kernel
theorem dX7_mayComeInto_34 : decode cX7_mayComeInto 34 = .ok (.getfield 20, 3) := by decide +kernel
theorem dX7_mayComeInto_37 : decode cX7_mayComeInto 37 = .ok (.getfield 59, 3) := by decide +kernel
theorem dX7_mayComeInto_40 : decode cX7_mayComeInto 40 = .ok (.iload_n 2, 1) := by decide +kernel
theorem dX7_mayComeInto_41 : decode cX7_mayComeInto 41 = .ok (.iconst 4, 1) := by decide +kernel
theorem dX7_mayComeInto_42 : decode cX7_mayComeInto 42 = .ok (.invokevirtual 36, 3) := by decide +kernel
theorem dX7_mayComeInto_45 : decode cX7_mayComeInto 45 = .ok (.ifCond .eq 7, 3) := by decide +kernel
theorem dX7_mayComeInto_48 : decode cX7_mayComeInto 48 = .ok (.iconst 1, 1) := by decide +kernel
theorem dX7_mayComeInto_49 : decode cX7_mayComeInto 49 = .ok (.goto 4, 3) := by decide +kernel
theorem dX7_mayComeInto_52 : decode cX7_mayComeInto 52 = .ok (.iconst 0, 1) := by decide +kernel
theorem dX7_mayComeInto_53 : decode cX7_mayComeInto 53 = .ok (.istore_n 3, 1) := by decide +kernel
theorem dX7_mayComeInto_54 : decode cX7_mayComeInto 54 = .ok (.aload_n 0, 1) := by decide +kernel
theorem dX7_mayComeInto_55 : decode cX7_mayComeInto 55 = .ok (.getfield 20, 3) := by decide +kernel
theorem dX7_mayComeInto_58 : decode cX7_mayComeInto 58 = .ok (.aload_n 0, 1) := by decide +kernel
theorem dX7_mayComeInto_59 : decode cX7_mayComeInto 59 = .ok (.iload_n 2, 1) := by decide +kernel
theorem dX7_mayComeInto_60 : decode cX7_mayComeInto 60 = .ok (.invokevirtual 50, 3) := by decide +kernel
theorem dX7_mayComeInto_63 : decode cX7_mayComeInto 63 = .ok (.iconst 3, 1) := by decide +kernel
theorem dX7_mayComeInto_64 : decode cX7_mayComeInto 64 = .ok (.invokevirtual 53, 3) := by decide +kernel
theorem dX7_mayComeInto_67 : decode cX7_mayComeInto 67 = .ok (.aload_n 0, 1) := by decide +kernel
theorem dX7_mayComeInto_68 : decode cX7_mayComeInto 68 = .ok (.getfield 20, 3) := by decide +kernel
theorem dX7_mayComeInto_71 : decode cX7_mayComeInto 71 = .ok (.getfield 33, 3) := by decide +kernel
theorem dX7_mayComeInto_74 : decode cX7_mayComeInto 74 = .ok (.iload_n 1, 1) := by decide +kernel
theorem dX7_mayComeInto_75 : decode cX7_mayComeInto 75 = .ok (.iconst 3, 1) := by decide +kernel
theorem dX7_mayComeInto_76 : decode cX7_mayComeInto 76 = .ok (.invokevirtual 36, 3) := by decide +kernel
theorem dX7_mayComeInto_79 : decode cX7_mayComeInto 79 = .ok (.iadd, 1) := by decide +kernel
theorem dX7_mayComeInto_80 : decode cX7_mayComeInto 80 = .ok (.istore 4, 2) := by decide +kernel
theorem dX7_mayComeInto_82 : decode cX7_mayComeInto 82 = .ok (.iload_n 3, 1) := by decide +kernel
theorem dX7_mayComeInto_83 : decode cX7_mayComeInto 83 = .ok (.ifCond .ne 24, 3) := by decide +kernel
theorem dX7_mayComeInto_86 : decode cX7_mayComeInto 86 = .ok (.iload 4, 2) := by decide +kernel
theorem dX7_mayComeInto_88 : decode cX7_mayComeInto 88 = .ok (.aload_n 0, 1) := by decide +kernel
theorem dX7_mayComeInto_89 : decode cX7_mayComeInto 89 = .ok (.getfield 20, 3) := by decide +kernel
theorem dX7_mayComeInto_92 : decode cX7_mayComeInto 92 = .ok (.getfield 59, 3) := by decide +kernel
theorem dX7_mayComeInto_95 : decode cX7_mayComeInto 95 = .ok (.iload_n 2, 1) := by decide +kernel
theorem dX7_mayComeInto_96 : decode cX7_mayComeInto 96 = .ok (.iconst 2, 1) := by decide +kernel
theorem dX7_mayComeInto_97 : decode cX7_mayComeInto 97 = .ok (.invokevirtual 36, 3) := by decide +kernel
theorem dX7_mayComeInto_100 : decode cX7_mayComeInto 100 = .ok (.if_icmp .gt 7, 3) := by decide +kernel
theorem dX7_mayComeInto_103 : decode cX7_mayComeInto 103 = .ok (.iconst 1, 1) := by decide +kernel
theorem dX7_mayComeInto_104 : decode cX7_mayComeInto 104 = .ok (.goto 4, 3) := by decide +kernel
theorem dX7_mayComeInto_107 : decode cX7_mayComeInto 107 = .ok (.iconst 0, 1) := by decide +kernel
theorem dX7_mayComeInto_108 : decode cX7_mayComeInto 108 = .ok (.ireturn, 1) := by decide +kernel
set_option maxRecDepth 20000 in
theorem ggX7_mayComeOn_X7_thingsAt : GoodIn wsX7_mayComeOn wsX7_thingsAt := goodIn_r _ [9, 1, 10, 11, 12, 13, 14, 15, 16, 17, 35, 36, 37, 38, 39, 40, 41, 42, 43, 44, 45, 46, 47, 48, 49, 50, 51] rfl (by decide +kernel)
set_option maxRecDepth 20000 in
theorem gX7_mayComeOn_X7_thingsAt : GoodIn wsX7_mayComeOn (wsV RX7 50 RX7 yX7_thingsAt wsX7_thingsAt) := goodIn_app (goodIn_of _ (by decide +kernel)) ggX7_mayComeOn_X7_thingsAt
set_option maxRecDepth 20000 in
theorem ggX7_mayComeOn_X8_at_ : GoodIn wsX7_mayComeOn wsX8_at_ := goodIn_r _ [21, 22, 17, 50, 51] rfl (by decide +kernel)
set_option maxRecDepth 20000 in
theorem gX7_mayComeOn_X8_at_ : GoodIn wsX7_mayComeOn (wsV RX7 36 RX8 yX8_at_ wsX8_at_) := goodIn_app (goodIn_of _ (by decide +kernel)) ggX7_mayComeOn_X8_at_
set_option maxRecDepth 20000 in
theorem ggX7_mayComeOn_X0_sumOf : GoodIn wsX7_mayComeOn wsX0_sumOf := goodIn_r _ [27, 28, 29, 30, 19, 20, 15, 21, 22, 17, 38, 39, 40, 41, 42, 43, 44, 45, 46, 47, 48, 49, 50, 51] rfl (by decide +kernel)
set_option maxRecDepth 20000 in
theorem gX7_mayComeOn_X0_sumOf : GoodIn wsX7_mayComeOn (wsV RX7 53 RX0 yX0_sumOf wsX0_sumOf) := goodIn_app (goodIn_of _ (by decide +kernel)) ggX7_mayComeOn_X0_sumOf
set_option maxRecDepth 20000 in
theorem ggX7_mayComeOn_X0_ofKind : GoodIn wsX7_mayComeOn wsX0_ofKind := goodIn_r _ [34, 28, 29, 30, 19, 20, 15, 21, 22, 17, 38, 39, 40, 41, 42, 43, 44, 45, 46, 47, 48, 49, 50, 51] rfl (by decide +kernel)
set_option maxRecDepth 20000 in
theorem gX7_mayComeOn_X0_ofKind : GoodIn wsX7_mayComeOn (wsV RX7 91 RX0 yX0_ofKind wsX0_ofKind) := goodIn_app (goodIn_of _ (by decide +kernel)) ggX7_mayComeOn_X0_ofKind
theorem dX7_mayComeOn_0 : decode cX7_mayComeOn 0 = .ok (.iload_n 2, 1) := by decide +kernel
theorem dX7_mayComeOn_1 : decode cX7_mayComeOn 1 = .ok (.ifCond .lt 14, 3) := by decide +kernel
theorem dX7_mayComeOn_4 : decode cX7_mayComeOn 4 = .ok (.iload_n 2, 1) := by decide +kernel
theorem dX7_mayComeOn_5 : decode cX7_mayComeOn 5 = .ok (.aload_n 0, 1) := by decide +kernel
theorem dX7_mayComeOn_6 : decode cX7_mayComeOn 6 = .ok (.getfield 20, 3) := by decide +kernel
theorem dX7_mayComeOn_9 : decode cX7_mayComeOn 9 = .ok (.getfield 98, 3) := by decide +kernel
theorem dX7_mayComeOn_12 : decode cX7_mayComeOn 12 = .ok (.if_icmp .lt 5, 3) := by decide +kernel
theorem dX7_mayComeOn_15 : decode cX7_mayComeOn 15 = .ok (.iconst 0, 1) := by decide +kernel
theorem dX7_mayComeOn_16 : decode cX7_mayComeOn 16 = .ok (.ireturn, 1) := by decide +kernel
theorem dX7_mayComeOn_17 : decode cX7_mayComeOn 17 = .ok (.aload_n 0, 1) := by decide +kernel
theorem dX7_mayComeOn_18 : decode cX7_mayComeOn 18 = .ok (.bipush 10, 2) := by decide +kernel
theorem dX7_mayComeOn_20 : decode cX7_mayComeOn 20 = .ok (.iload_n 2, 1) := by decide +kernel
theorem dX7_mayComeOn_21 : decode cX7_mayComeOn 21 = .ok (.iadd, 1) := by decide +kernel
theorem dX7_mayComeOn_22 : decode cX7_mayComeOn 22 = .ok (.invokevirtual 50, 3) := by decide +kernel
theorem dX7_mayComeOn_25 : decode cX7_mayComeOn 25 = .ok (.istore_n 3, 1) := by decide +kernel
theorem dX7_mayComeOn_26 : decode cX7_mayComeOn 26 = .ok (.aload_n 0, 1) := by decide +kernel
theorem dX7_mayComeOn_27 : decode cX7_mayComeOn 27 = .ok (.getfield 20, 3) := by decide +kernel
theorem dX7_mayComeOn_30 : decode cX7_mayComeOn 30 = .ok (.getfield 33, 3) := by decide +kernel
theorem dX7_mayComeOn_33 : decode cX7_mayComeOn 33 = .ok (.iload_n 1, 1) := by decide +kernel
theorem dX7_mayComeOn_34 : decode cX7_mayComeOn 34 = .ok (.iconst 0, 1) := by decide +kernel
theorem dX7_mayComeOn_35 : decode cX7_mayComeOn 35 = .ok (.invokevirtual 36, 3) := by decide +kernel
theorem dX7_mayComeOn_38 : decode cX7_mayComeOn 38 = .ok (.iconst 1, 1) := by decide +kernel
theorem dX7_mayComeOn_39 : decode cX7_mayComeOn 39 = .ok (.if_icmp .ne 48, 3) := by decide +kernel
theorem dX7_mayComeOn_42 : decode cX7_mayComeOn 42 = .ok (.aload_n 0, 1) := by decide +kernel
theorem dX7_mayComeOn_43 : decode cX7_mayComeOn 43 = .ok (.getfield 20, 3) := by decide +kernel
theorem dX7_mayComeOn_46 : decode cX7_mayComeOn 46 = .ok (.iload_n 3, 1) := by decide +kernel
theorem dX7_mayComeOn_47 : decode cX7_mayComeOn 47 = .ok (.bipush 6, 2) := by decide +kernel
theorem dX7_mayComeOn_49 : decode cX7_mayComeOn 49 = .ok (.invokevirtual 53, 3) := by decide +kernel
theorem dX7_mayComeOn_52 : decode cX7_mayComeOn 52 = .ok (.aload_n 0, 1) := by decide +kernel
theorem dX7_mayComeOn_53 : decode cX7_mayComeOn 53 = .ok (.getfield 20, 3) := by decide +kernel
theorem dX7_mayComeOn_56 : decode cX7_mayComeOn 56 = .ok (.getfield 33, 3) := by decide +kernel
theorem dX7_mayComeOn_59 : decode cX7_mayComeOn 59 = .ok (.iload_n 1, 1) := by decide +kernel
theorem dX7_mayComeOn_60 : decode cX7_mayComeOn 60 = .ok (.bipush 6, 2) := by decide +kernel
theorem dX7_mayComeOn_62 : decode cX7_mayComeOn 62 = .ok (.invokevirtual 36, 3) := by decide +kernel
theorem dX7_mayComeOn_65 : decode cX7_mayComeOn 65 = .ok (.iadd, 1) := by decide +kernel
theorem dX7_mayComeOn_66 : decode cX7_mayComeOn 66 = .ok (.aload_n 0, 1) := by decide +kernel
theorem dX7_mayComeOn_67 : decode cX7_mayComeOn 67 = .ok (.getfield 20, 3) := by decide +kernel
theorem dX7_mayComeOn_70 : decode cX7_mayComeOn 70 = .ok (.getfield 113, 3) := by decide +kernel
theorem dX7_mayComeOn_73 : decode cX7_mayComeOn 73 = .ok (.iload_n 2, 1) := by decide +kernel
theorem dX7_mayComeOn_74 : decode cX7_mayComeOn 74 = .ok (.iconst 2, 1) := by decide +kernel
theorem dX7_mayComeOn_75 : decode cX7_mayComeOn 75 = .ok (.invokevirtual 36, 3) := by decide +kernel
theorem dX7_mayComeOn_78 : decode cX7_mayComeOn 78 = .ok (.if_icmp .gt 7, 3) := by decide +kernel
theorem dX7_mayComeOn_81 : decode cX7_mayComeOn 81 = .ok (.iconst 1, 1) := by decide +kernel
theorem dX7_mayComeOn_82 : decode cX7_mayComeOn 82 = .ok (.goto 4, 3) := by decide +kernel
theorem dX7_mayComeOn_85 : decode cX7_mayComeOn 85 = .ok (.iconst 0, 1) := by decide +kernel
theorem dX7_mayComeOn_86 : decode cX7_mayComeOn 86 = .ok (.ireturn, 1) := by decide +kernel
theorem dX7_mayComeOn_87 : decode cX7_mayComeOn 87 = .ok (.aload_n 0, 1) := by decide +kernel
theorem dX7_mayComeOn_88 : decode cX7_mayComeOn 88 = .ok (.getfield 20, 3) := by decide +kernel
theorem dX7_mayComeOn_91 : decode cX7_mayComeOn 91 = .ok (.getfield 33, 3) := by decide +kernel
theorem dX7_mayComeOn_94 : decode cX7_mayComeOn 94 = .ok (.iload_n 1, 1) := by decide +kernel
theorem dX7_mayComeOn_95 : decode cX7_mayComeOn 95 = .ok (.iconst 3, 1) := by decide +kernel
theorem dX7_mayComeOn_96 : decode cX7_mayComeOn 96 = .ok (.invokevirtual 36, 3) := by decide +kernel
theorem dX7_mayComeOn_99 : decode cX7_mayComeOn 99 = .ok (.istore 4, 2) := by decide +kernel
theorem dX7_mayComeOn_101 : decode cX7_mayComeOn 101 = .ok (.aload_n 0, 1) := by decide +kernel
theorem dX7_mayComeOn_102 : decode cX7_mayComeOn 102 = .ok (.getfield 20, 3) := by decide +kernel
theorem dX7_mayComeOn_105 : decode cX7_mayComeOn 105 = .ok (.iload_n 3, 1) := by decide +kernel
theorem dX7_mayComeOn_106 : decode cX7_mayComeOn 106 = .ok (.aload_n 0, 1) := by decide +kernel
theorem dX7_mayComeOn_107 : decode cX7_mayComeOn 107 = .ok (.getfield 20, 3) := by decide +kernel
theorem dX7_mayComeOn_110 : decode cX7_mayComeOn 110 = .ok (.iconst 1, 1) := by decide +kernel
theorem dX7_mayComeOn_111 : decode cX7_mayComeOn 111 = .ok (.invokevirtual 91, 3) := by decide +kernel
theorem dX7_mayComeOn_114 : decode cX7_mayComeOn 114 = .ok (.iconst (-1), 1) := by decide +kernel
theorem dX7_mayComeOn_115 : decode cX7_mayComeOn 115 = .ok (.ixor, 1) := by decide +kernel
theorem dX7_mayComeOn_116 : decode cX7_mayComeOn 116 = .ok (.iand, 1) := by decide +kernel
theorem dX7_mayComeOn_117 : decode cX7_mayComeOn 117 = .ok (.iconst 3, 1) := by decide +kernel
theorem dX7_mayComeOn_118 : decode cX7_mayComeOn 118 = .ok (.invokevirtual 53, 3) := by decide +kernel
theorem dX7_mayComeOn_121 : decode cX7_mayComeOn 121 = .ok (.iload 4, 2) := by decide +kernel
theorem dX7_mayComeOn_123 : decode cX7_mayComeOn 123 = .ok (.iadd, 1) := by decide +kernel
theorem dX7_mayComeOn_124 : decode cX7_mayComeOn 124 = .ok (.istore 5, 2) := by decide +kernel
theorem dX7_mayComeOn_126 : decode cX7_mayComeOn 126 = .ok (.iload 4, 2) := by decide +kernel
theorem dX7_mayComeOn_128 : decode cX7_mayComeOn 128 = .ok (.iconst 2, 1) := by decide +kernel
theorem dX7_mayComeOn_129 : decode cX7_mayComeOn 129 = .ok (.if_icmp .gt 24, 3) := by decide +kernel
theorem dX7_mayComeOn_132 : decode cX7_mayComeOn 132 = .ok (.iload 5, 2) := by decide +kernel
theorem dX7_mayComeOn_134 : decode cX7_mayComeOn 134 = .ok (.aload_n 0, 1) := by decide +kernel
theorem dX7_mayComeOn_135 : decode cX7_mayComeOn 135 = .ok (.getfield 20, 3) := by decide +kernel
theorem dX7_mayComeOn_138 : decode cX7_mayComeOn 138 = .ok (.getfield 113, 3) := by decide +kernel
theorem dX7_mayComeOn_141 : decode cX7_mayComeOn 141 = .ok (.iload_n 2, 1) := by decide +kernel
theorem dX7_mayComeOn_142 : decode cX7_mayComeOn 142 = .ok (.iconst 1, 1) := by decide +kernel
theorem dX7_mayComeOn_143 : decode cX7_mayComeOn 143 = .ok (.invokevirtual 36, 3) := by decide +kernel
theorem dX7_mayComeOn_146 : decode cX7_mayComeOn 146 = .ok (.if_icmp .gt 7, 3) := by decide +kernel
theorem dX7_mayComeOn_149 : decode cX7_mayComeOn 149 = .ok (.iconst 1, 1) := by decide +kernel
theorem dX7_mayComeOn_150 : decode cX7_mayComeOn 150 = .ok (.goto 4, 3) := by decide +kernel
theorem dX7_mayComeOn_153 : decode cX7_mayComeOn 153 = .ok (.iconst 0, 1) := by decide +kernel
theorem dX7_mayComeOn_154 : decode cX7_mayComeOn 154 = .ok (.ireturn, 1) := by decide +kernel
set_option maxRecDepth 20000 in
theorem ggX7_bring_X8_at : GoodIn wsX7_bring wsX8_at := goodIn_r _ [6, 7, 23, 24] rfl (by decide +kernel)
set_option maxRecDepth 20000 in
theorem gX7_bring_X8_at : GoodIn wsX7_bring (wsV RX7 47 RX8 yX8_at wsX8_at) := goodIn_app (goodIn_of _ (by decide +kernel)) ggX7_bring_X8_at
set_option maxRecDepth 20000 in
theorem ggX7_bring_X7_openIfCase : GoodIn wsX7_bring wsX7_openIfCase := goodIn_r _ [12, 13, 14, 15, 20, 21, 22, 25, 26, 27, 28, 29, 30, 31, 32, 33, 34, 35, 36] rfl (by decide +kernel)
set_option maxRecDepth 20000 in
theorem gX7_bring_X7_openIfCase : GoodIn wsX7_bring (wsV RX7 116 RX7 yX7_openIfCase wsX7_openIfCase) := goodIn_app (goodIn_of _ (by decide +kernel)) ggX7_bring_X7_openIfCase
set_option maxRecDepth 20000 in
theorem ggX7_bring_X8_set : GoodIn wsX7_bring wsX8_set := goodIn_r _ [19, 7, 23, 24] rfl (by decide +kernel)
set_option maxRecDepth 20000 in
theorem gX7_bring_X8_set : GoodIn wsX7_bring (wsV RX7 40 RX8 yX8_set wsX8_set) := goodIn_app (goodIn_of _ (by decide +kernel)) ggX7_bring_X8_set
theorem dX7_bring_0 : decode cX7_bring 0 = .ok (.aload_n 0, 1) := by decide +kernel
theorem dX7_bring_1 : decode cX7_bring 1 = .ok (.aload_n 0, 1) := by decide +kernel
theorem dX7_bring_2 : decode cX7_bring 2 = .ok (.getfield 14, 3) := by decide +kernel
theorem dX7_bring_5 : decode cX7_bring 5 = .ok (.iload_n 1, 1) := by decide +kernel
theorem dX7_bring_6 : decode cX7_bring 6 = .ok (.invokevirtual 47, 3) := by decide +kernel
theorem dX7_bring_9 : decode cX7_bring 9 = .ok (.invokevirtual 116, 3) := by decide +kernel
theorem dX7_bring_12 : decode cX7_bring 12 = .ok (.aload_n 0, 1) := by decide +kernel
theorem dX7_bring_13 : decode cX7_bring 13 = .ok (.iload_n 2, 1) := by decide +kernel
theorem dX7_bring_14 : decode cX7_bring 14 = .ok (.invokevirtual 116, 3) := by decide +kernel
theorem dX7_bring_17 : decode cX7_bring 17 = .ok (.aload_n 0, 1) := by decide +kernel
theorem dX7_bring_18 : decode cX7_bring 18 = .ok (.getfield 14, 3) := by decide +kernel
theorem dX7_bring_21 : decode cX7_bring 21 = .ok (.iload_n 1, 1) := by decide +kernel
theorem dX7_bring_22 : decode cX7_bring 22 = .ok (.iload_n 2, 1) := by decide +kernel
theorem dX7_bring_23 : decode cX7_bring 23 = .ok (.invokevirtual 40, 3) := by decide +kernel
theorem dX7_bring_26 : decode cX7_bring 26 = .ok (.return_, 1) := by decide +kernel
theorem dX7_openIfCase_0 : decode cX7_openIfCase 0 = .ok (.iload_n 1, 1) := by decide +kernel
theorem dX7_openIfCase_1 : decode cX7_openIfCase 1 = .ok (.ifCond .lt 26, 3) := by decide +kernel
theorem dX7_openIfCase_4 : decode cX7_openIfCase 4 = .ok (.iload_n 1, 1) := by decide +kernel
theorem dX7_openIfCase_5 : decode cX7_openIfCase 5 = .ok (.aload_n 0, 1) := by decide +kernel
theorem dX7_openIfCase_6 : decode cX7_openIfCase 6 = .ok (.getfield 20, 3) := by decide +kernel
theorem dX7_openIfCase_9 : decode cX7_openIfCase 9 = .ok (.getfield 85, 3) := by decide +kernel
theorem dX7_openIfCase_12 : decode cX7_openIfCase 12 = .ok (.if_icmp .ge 15, 3) := by decide +kernel
theorem dX7_openIfCase_15 : decode cX7_openIfCase 15 = .ok (.aload_n 0, 1) := by decide +kernel
theorem dX7_openIfCase_16 : decode cX7_openIfCase 16 = .ok (.dup, 1) := by decide +kernel
theorem dX7_openIfCase_17 : decode cX7_openIfCase 17 = .ok (.getfield 24, 3) := by decide +kernel
theorem dX7_openIfCase_20 : decode cX7_openIfCase 20 = .ok (.iconst 1, 1) := by decide +kernel
theorem dX7_openIfCase_21 : decode cX7_openIfCase 21 = .ok (.iload_n 1, 1) := by decide +kernel
theorem dX7_openIfCase_22 : decode cX7_openIfCase 22 = .ok (.ishl, 1) := by decide +kernel
theorem dX7_openIfCase_23 : decode cX7_openIfCase 23 = .ok (.ior, 1) := by decide +kernel
theorem dX7_openIfCase_24 : decode cX7_openIfCase 24 = .ok (.putfield 24, 3) := by decide +kernel
theorem dX7_openIfCase_27 : decode cX7_openIfCase 27 = .ok (.return_, 1) := by decide +kernel
set_option maxRecDepth 20000 in
theorem ggX7_takeBack_X8_set : GoodIn wsX7_takeBack wsX8_set := goodIn_r _ [7, 8, 12, 13] rfl (by decide +kernel)
set_option maxRecDepth 20000 in
theorem gX7_takeBack_X8_set : GoodIn wsX7_takeBack (wsV RX7 40 RX8 yX8_set wsX8_set) := goodIn_app (goodIn_of _ (by decide +kernel)) ggX7_takeBack_X8_set
theorem dX7_takeBack_0 : decode cX7_takeBack 0 = .ok (.aload_n 0, 1) := by decide +kernel
theorem dX7_takeBack_1 : decode cX7_takeBack 1 = .ok (.getfield 14, 3) := by decide +kernel
theorem dX7_takeBack_4 : decode cX7_takeBack 4 = .ok (.iload_n 1, 1) := by decide +kernel
theorem dX7_takeBack_5 : decode cX7_takeBack 5 = .ok (.iload_n 2, 1) := by decide +kernel
theorem dX7_takeBack_6 : decode cX7_takeBack 6 = .ok (.invokevirtual 40, 3) := by decide +kernel
theorem dX7_takeBack_9 : decode cX7_takeBack 9 = .ok (.aload_n 0, 1) := by decide +kernel
theorem dX7_takeBack_10 : decode cX7_takeBack 10 = .ok (.iload_n 3, 1) := by decide +kernel
theorem dX7_takeBack_11 : decode cX7_takeBack 11 = .ok (.putfield 24, 3) := by decide +kernel
theorem dX7_takeBack_14 : decode cX7_takeBack 14 = .ok (.return_, 1) := by decide +kernel
set_option maxRecDepth 20000 in
theorem ggX7_total_X7_thingsAt : GoodIn wsX7_total wsX7_thingsAt := goodIn_r _ [12, 1, 5, 6, 13, 14, 15, 16, 17, 18, 80, 81, 82, 83, 84, 85, 86, 87, 88, 89, 90, 91, 92, 93, 94, 95, 96] rfl (by decide +kernel)
set_option maxRecDepth 20000 in
theorem gX7_total_X7_thingsAt : GoodIn wsX7_total (wsV RX7 50 RX7 yX7_thingsAt wsX7_thingsAt) := goodIn_app (goodIn_of _ (by decide +kernel)) ggX7_total_X7_thingsAt
set_option maxRecDepth 20000 in
theorem ggX7_total_X7_feeWith : GoodIn wsX7_total wsX7_feeWith := goodIn_r _ [22, 1, 23, 4, 24, 25, 26, 27, 28, 29, 30, 31, 32, 33, 16, 34, 35, 18, 36, 37, 38, 39, 40, 41, 42, 43, 44, 45, 46, 47, 48, 49, 50, 51, 52, 53, 54, 55, 56, 57, 58, 59, 60, 61, 62, 63, 64, 65, 66, 14, 15, 17, 67, 68, 69, 70, 71, 72, 73, 80, 81, 82, 83, 84, 85, 86, 87, 88, 89, 90, 91, 92, 93, 94, 95, 96, 97, 98, 99, 100, 101, 102] rfl (by decide +kernel)
set_option maxRecDepth 20000 in
theorem gX7_total_X7_feeWith : GoodIn wsX7_total (wsV RX7 67 RX7 yX7_feeWith wsX7_feeWith) := goodIn_app (goodIn_of _ (by decide +kernel)) ggX7_total_X7_feeWith
set_option maxRecDepth 20000 in
theorem ggX7_total_X8_at_ : GoodIn wsX7_total wsX8_at_ := goodIn_r _ [34, 35, 18, 95, 96] rfl (by decide +kernel)
set_option maxRecDepth 20000 in
theorem gX7_total_X8_at_ : GoodIn wsX7_total (wsV RX7 36 RX8 yX8_at_ wsX8_at_) := goodIn_app (goodIn_of _ (by decide +kernel)) ggX7_total_X8_at_
set_option maxRecDepth 20000 in
theorem ggX7_total_X8_at : GoodIn wsX7_total wsX8_at := goodIn_r _ [17, 18, 95, 96] rfl (by decide +kernel)
set_option maxRecDepth 20000 in
theorem gX7_total_X8_at : GoodIn wsX7_total (wsV RX7 47 RX8 yX8_at wsX8_at) := goodIn_app (goodIn_of _ (by decide +kernel)) ggX7_total_X8_at
set_option maxRecDepth 20000 in
theorem ggX7_total_X0_priceOf : GoodIn wsX7_total wsX0_priceOf := goodIn_r _ [77, 30, 78, 79, 31, 32, 33, 16, 34, 35, 18, 83, 84, 85, 86, 87, 88, 89, 90, 91, 92, 93, 94, 95, 96] rfl (by decide +kernel)
set_option maxRecDepth 20000 in
theorem gX7_total_X0_priceOf : GoodIn wsX7_total (wsV RX7 104 RX0 yX0_priceOf wsX0_priceOf) := goodIn_app (goodIn_of _ (by decide +kernel)) ggX7_total_X0_priceOf
theorem dX7_total_0 : decode cX7_total 0 = .ok (.iconst 0, 1) := by decide +kernel
theorem dX7_total_1 : decode cX7_total 1 = .ok (.istore_n 1, 1) := by decide +kernel
theorem dX7_total_2 : decode cX7_total 2 = .ok (.iconst 0, 1) := by decide +kernel
theorem dX7_total_3 : decode cX7_total 3 = .ok (.istore_n 2, 1) := by decide +kernel
theorem dX7_total_4 : decode cX7_total 4 = .ok (.iload_n 2, 1) := by decide +kernel
theorem dX7_total_5 : decode cX7_total 5 = .ok (.aload_n 0, 1) := by decide +kernel
theorem dX7_total_6 : decode cX7_total 6 = .ok (.getfield 20, 3) := by decide +kernel
theorem dX7_total_9 : decode cX7_total 9 = .ok (.getfield 85, 3) := by decide +kernel
theorem dX7_total_12 : decode cX7_total 12 = .ok (.if_icmp .ge 48, 3) := by decide +kernel
theorem dX7_total_15 : decode cX7_total 15 = .ok (.iload_n 1, 1) := by decide +kernel
theorem dX7_total_16 : decode cX7_total 16 = .ok (.aload_n 0, 1) := by decide +kernel
theorem dX7_total_17 : decode cX7_total 17 = .ok (.iload_n 2, 1) := by decide +kernel
theorem dX7_total_18 : decode cX7_total 18 = .ok (.aload_n 0, 1) := by decide +kernel
theorem dX7_total_19 : decode cX7_total 19 = .ok (.iload_n 2, 1) := by decide +kernel
theorem dX7_total_20 : decode cX7_total 20 = .ok (.invokevirtual 50, 3) := by decide +kernel
theorem dX7_total_23 : decode cX7_total 23 = .ok (.invokevirtual 67, 3) := by decide +kernel
theorem dX7_total_26 : decode cX7_total 26 = .ok (.iadd, 1) := by decide +kernel
theorem dX7_total_27 : decode cX7_total 27 = .ok (.istore_n 1, 1) := by decide +kernel
theorem dX7_total_28 : decode cX7_total 28 = .ok (.aload_n 0, 1) := by decide +kernel
theorem dX7_total_29 : decode cX7_total 29 = .ok (.getfield 24, 3) := by decide +kernel
theorem dX7_total_32 : decode cX7_total 32 = .ok (.iload_n 2, 1) := by decide +kernel
theorem dX7_total_33 : decode cX7_total 33 = .ok (.ishr, 1) := by decide +kernel
theorem dX7_total_34 : decode cX7_total 34 = .ok (.iconst 1, 1) := by decide +kernel
theorem dX7_total_35 : decode cX7_total 35 = .ok (.iand, 1) := by decide +kernel
theorem dX7_total_36 : decode cX7_total 36 = .ok (.ifCond .eq 18, 3) := by decide +kernel
theorem dX7_total_39 : decode cX7_total 39 = .ok (.iload_n 1, 1) := by decide +kernel
theorem dX7_total_40 : decode cX7_total 40 = .ok (.aload_n 0, 1) := by decide +kernel
theorem dX7_total_41 : decode cX7_total 41 = .ok (.getfield 20, 3) := by decide +kernel
theorem dX7_total_44 : decode cX7_total 44 = .ok (.getfield 59, 3) := by decide +kernel
theorem dX7_total_47 : decode cX7_total 47 = .ok (.iload_n 2, 1) := by decide +kernel
theorem dX7_total_48 : decode cX7_total 48 = .ok (.iconst 3, 1) := by decide +kernel
theorem dX7_total_49 : decode cX7_total 49 = .ok (.invokevirtual 36, 3) := by decide +kernel
theorem dX7_total_52 : decode cX7_total 52 = .ok (.iadd, 1) := by decide +kernel
theorem dX7_total_53 : decode cX7_total 53 = .ok (.istore_n 1, 1) := by decide +kernel
theorem dX7_total_54 : decode cX7_total 54 = .ok (.iinc 2 1, 3) := by decide +kernel
theorem dX7_total_57 : decode cX7_total 57 = .ok (.goto (-53), 3) := by decide +kernel
theorem dX7_total_60 : decode cX7_total 60 = .ok (.iconst 0, 1) := by decide +kernel
theorem dX7_total_61 : decode cX7_total 61 = .ok (.istore_n 2, 1) := by decide +kernel
theorem dX7_total_62 : decode cX7_total 62 = .ok (.iload_n 2, 1) := by decide +kernel
theorem dX7_total_63 : decode cX7_total 63 = .ok (.aload_n 0, 1) := by decide +kernel
theorem dX7_total_64 : decode cX7_total 64 = .ok (.getfield 20, 3) := by decide +kernel
theorem dX7_total_67 : decode cX7_total 67 = .ok (.getfield 28, 3) := by decide +kernel
theorem dX7_total_70 : decode cX7_total 70 = .ok (.if_icmp .ge 64, 3) := by decide +kernel
theorem dX7_total_73 : decode cX7_total 73 = .ok (.aload_n 0, 1) := by decide +kernel
theorem dX7_total_74 : decode cX7_total 74 = .ok (.getfield 14, 3) := by decide +kernel
theorem dX7_total_77 : decode cX7_total 77 = .ok (.iload_n 2, 1) := by decide +kernel
theorem dX7_total_78 : decode cX7_total 78 = .ok (.invokevirtual 47, 3) := by decide +kernel
theorem dX7_total_81 : decode cX7_total 81 = .ok (.bipush 21, 2) := by decide +kernel
theorem dX7_total_83 : decode cX7_total 83 = .ok (.if_icmp .ne 17, 3) := by decide +kernel
theorem dX7_total_86 : decode cX7_total 86 = .ok (.iload_n 1, 1) := by decide +kernel
theorem dX7_total_87 : decode cX7_total 87 = .ok (.aload_n 0, 1) := by decide +kernel
theorem dX7_total_88 : decode cX7_total 88 = .ok (.getfield 20, 3) := by decide +kernel
theorem dX7_total_91 : decode cX7_total 91 = .ok (.iload_n 2, 1) := by decide +kernel
theorem dX7_total_92 : decode cX7_total 92 = .ok (.invokevirtual 104, 3) := by decide +kernel
theorem dX7_total_95 : decode cX7_total 95 = .ok (.iadd, 1) := by decide +kernel
theorem dX7_total_96 : decode cX7_total 96 = .ok (.istore_n 1, 1) := by decide +kernel
theorem dX7_total_97 : decode cX7_total 97 = .ok (.goto 31, 3) := by decide +kernel
theorem dX7_total_100 : decode cX7_total 100 = .ok (.aload_n 0, 1) := by decide +kernel
theorem dX7_total_101 : decode cX7_total 101 = .ok (.getfield 14, 3) := by decide +kernel
theorem dX7_total_104 : decode cX7_total 104 = .ok (.iload_n 2, 1) := by decide +kernel
theorem dX7_total_105 : decode cX7_total 105 = .ok (.invokevirtual 47, 3) := by decide +kernel
theorem dX7_total_108 : decode cX7_total 108 = .ok (.bipush 20, 2) := by decide +kernel
theorem dX7_total_110 : decode cX7_total 110 = .ok (.if_icmp .ne 18, 3) := by decide +kernel
theorem dX7_total_113 : decode cX7_total 113 = .ok (.iload_n 1, 1) := by decide +kernel
theorem dX7_total_114 : decode cX7_total 114 = .ok (.aload_n 0, 1) := by decide +kernel
theorem dX7_total_115 : decode cX7_total 115 = .ok (.getfield 20, 3) := by decide +kernel
theorem dX7_total_118 : decode cX7_total 118 = .ok (.getfield 33, 3) := by decide +kernel
theorem dX7_total_121 : decode cX7_total 121 = .ok (.iload_n 2, 1) := by decide +kernel
theorem dX7_total_122 : decode cX7_total 122 = .ok (.iconst 4, 1) := by decide +kernel
theorem dX7_total_123 : decode cX7_total 123 = .ok (.invokevirtual 36, 3) := by decide +kernel
theorem dX7_total_126 : decode cX7_total 126 = .ok (.iadd, 1) := by decide +kernel
theorem dX7_total_127 : decode cX7_total 127 = .ok (.istore_n 1, 1) := by decide +kernel
theorem dX7_total_128 : decode cX7_total 128 = .ok (.iinc 2 1, 3) := by decide +kernel
theorem dX7_total_131 : decode cX7_total 131 = .ok (.goto (-69), 3) := by decide +kernel
theorem dX7_total_134 : decode cX7_total 134 = .ok (.iload_n 1, 1) := by decide +kernel
theorem dX7_total_135 : decode cX7_total 135 = .ok (.ireturn, 1) := by decide +kernel
set_option maxRecDepth 20000 in
theorem ggX7_law_X7_leastOver : GoodIn wsX7_law wsX7_leastOver := goodIn_r _ [7, 1, 2, 8, 9, 10, 6, 11, 12, 13, 14, 15, 16, 17, 18, 19, 20, 21, 22, 23, 24, 25, 26, 27, 28, 29, 30, 31, 32, 33, 34, 35, 36, 37, 38, 39, 40, 41, 42, 43, 44, 45, 54, 55, 56, 57, 58, 59, 60, 61, 62, 63, 64, 65, 66, 67, 68, 69, 70] rfl (by decide +kernel)
set_option maxRecDepth 20000 in
theorem gX7_law_X7_leastOver : GoodIn wsX7_law (wsV RX7 120 RX7 yX7_leastOver wsX7_leastOver) := goodIn_app (goodIn_of _ (by decide +kernel)) ggX7_law_X7_leastOver
set_option maxRecDepth 20000 in
theorem ggX7_law_X7_thingsAt : GoodIn wsX7_law wsX7_thingsAt := goodIn_r _ [24, 1, 25, 26, 27, 28, 29, 30, 31, 32, 54, 55, 56, 57, 58, 59, 60, 61, 62, 63, 64, 65, 66, 67, 68, 69, 70] rfl (by decide +kernel)
set_option maxRecDepth 20000 in
theorem gX7_law_X7_thingsAt : GoodIn wsX7_law (wsV RX7 50 RX7 yX7_thingsAt wsX7_thingsAt) := goodIn_app (goodIn_of _ (by decide +kernel)) ggX7_law_X7_thingsAt
set_option maxRecDepth 20000 in
theorem ggX7_law_X0_hasKind : GoodIn wsX7_law wsX0_hasKind := goodIn_r _ [49, 50, 51, 52, 36, 53, 38, 39, 40, 41, 42, 30, 43, 44, 32, 57, 58, 59, 60, 61, 62, 63, 64, 65, 66, 67, 68, 69, 70] rfl (by decide +kernel)
set_option maxRecDepth 20000 in
theorem gX7_law_X0_hasKind : GoodIn wsX7_law (wsV RX7 94 RX0 yX0_hasKind wsX0_hasKind) := goodIn_app (goodIn_of _ (by decide +kernel)) ggX7_law_X0_hasKind
theorem dX7_law_0 : decode cX7_law 0 = .ok (.aload_n 0, 1) := by decide +kernel
theorem dX7_law_1 : decode cX7_law 1 = .ok (.invokevirtual 120, 3) := by decide +kernel
theorem dX7_law_4 : decode cX7_law 4 = .ok (.istore_n 1, 1) := by decide +kernel
theorem dX7_law_5 : decode cX7_law 5 = .ok (.iload_n 1, 1) := by decide +kernel
theorem dX7_law_6 : decode cX7_law 6 = .ok (.iconst (-1), 1) := by decide +kernel
theorem dX7_law_7 : decode cX7_law 7 = .ok (.if_icmp .eq 8, 3) := by decide +kernel
theorem dX7_law_10 : decode cX7_law 10 = .ok (.bipush 20, 2) := by decide +kernel
theorem dX7_law_12 : decode cX7_law 12 = .ok (.iload_n 1, 1) := by decide +kernel
theorem dX7_law_13 : decode cX7_law 13 = .ok (.iadd, 1) := by decide +kernel
theorem dX7_law_14 : decode cX7_law 14 = .ok (.ireturn, 1) := by decide +kernel
theorem dX7_law_15 : decode cX7_law 15 = .ok (.iconst 0, 1) := by decide +kernel
theorem dX7_law_16 : decode cX7_law 16 = .ok (.istore_n 2, 1) := by decide +kernel
theorem dX7_law_17 : decode cX7_law 17 = .ok (.iload_n 2, 1) := by decide +kernel
theorem dX7_law_18 : decode cX7_law 18 = .ok (.aload_n 0, 1) := by decide +kernel
theorem dX7_law_19 : decode cX7_law 19 = .ok (.getfield 20, 3) := by decide +kernel
theorem dX7_law_22 : decode cX7_law 22 = .ok (.getfield 85, 3) := by decide +kernel
theorem dX7_law_25 : decode cX7_law 25 = .ok (.if_icmp .ge 56, 3) := by decide +kernel
theorem dX7_law_28 : decode cX7_law 28 = .ok (.aload_n 0, 1) := by decide +kernel
theorem dX7_law_29 : decode cX7_law 29 = .ok (.iload_n 2, 1) := by decide +kernel
theorem dX7_law_30 : decode cX7_law 30 = .ok (.invokevirtual 50, 3) := by decide +kernel
theorem dX7_law_33 : decode cX7_law 33 = .ok (.istore_n 3, 1) := by decide +kernel
theorem dX7_law_34 : decode cX7_law 34 = .ok (.aload_n 0, 1) := by decide +kernel
theorem dX7_law_35 : decode cX7_law 35 = .ok (.getfield 20, 3) := by decide +kernel
theorem dX7_law_38 : decode cX7_law 38 = .ok (.iload_n 3, 1) := by decide +kernel
theorem dX7_law_39 : decode cX7_law 39 = .ok (.iconst 3, 1) := by decide +kernel
theorem dX7_law_40 : decode cX7_law 40 = .ok (.invokevirtual 94, 3) := by decide +kernel
theorem dX7_law_43 : decode cX7_law 43 = .ok (.ifCond .eq 32, 3) := by decide +kernel
theorem dX7_law_46 : decode cX7_law 46 = .ok (.aload_n 0, 1) := by decide +kernel
theorem dX7_law_47 : decode cX7_law 47 = .ok (.getfield 20, 3) := by decide +kernel
theorem dX7_law_50 : decode cX7_law 50 = .ok (.iload_n 3, 1) := by decide +kernel
theorem dX7_law_51 : decode cX7_law 51 = .ok (.iconst 1, 1) := by decide +kernel
theorem dX7_law_52 : decode cX7_law 52 = .ok (.invokevirtual 94, 3) := by decide +kernel
theorem dX7_law_55 : decode cX7_law 55 = .ok (.ifCond .ne 20, 3) := by decide +kernel
theorem dX7_law_58 : decode cX7_law 58 = .ok (.aload_n 0, 1) := by decide +kernel
theorem dX7_law_59 : decode cX7_law 59 = .ok (.getfield 20, 3) := by decide +kernel
theorem dX7_law_62 : decode cX7_law 62 = .ok (.iload_n 3, 1) := by decide +kernel
theorem dX7_law_63 : decode cX7_law 63 = .ok (.iconst 5, 1) := by decide +kernel
theorem dX7_law_64 : decode cX7_law 64 = .ok (.invokevirtual 94, 3) := by decide +kernel
theorem dX7_law_67 : decode cX7_law 67 = .ok (.ifCond .ne 8, 3) := by decide +kernel
theorem dX7_law_70 : decode cX7_law 70 = .ok (.bipush 10, 2) := by decide +kernel
theorem dX7_law_72 : decode cX7_law 72 = .ok (.iload_n 2, 1) := by decide +kernel
theorem dX7_law_73 : decode cX7_law 73 = .ok (.iadd, 1) := by decide +kernel
theorem dX7_law_74 : decode cX7_law 74 = .ok (.ireturn, 1) := by decide +kernel
theorem dX7_law_75 : decode cX7_law 75 = .ok (.iinc 2 1, 3) := by decide +kernel
theorem dX7_law_78 : decode cX7_law 78 = .ok (.goto (-61), 3) := by decide +kernel
theorem dX7_law_81 : decode cX7_law 81 = .ok (.iconst 0, 1) := by decide +kernel
theorem dX7_law_82 : decode cX7_law 82 = .ok (.ireturn, 1) := by decide +kernel
