set_option maxRecDepth 20000 in
theorem ggX3_init_X8_init : GoodIn wsX3_init wsX8_init := goodIn_r _ [15, 16, 2, 3, 17, 18, 19, 20, 21, 22, 23, 24, 25] rfl (by decide +kernel)
set_option maxRecDepth 20000 in
theorem gX3_init_X8_init : GoodIn wsX3_init (wsX8_init) := ggX3_init_X8_init
theorem dX3_init_0 : decode cX3_init 0 = .ok (.aload_n 0, 1) := by decide +kernel
theorem dX3_init_1 : decode cX3_init 1 = .ok (.invokespecial 3, 3) := by decide +kernel
theorem dX3_init_4 : decode cX3_init 4 = .ok (.aload_n 0, 1) := by decide +kernel
theorem dX3_init_5 : decode cX3_init 5 = .ok (.new 9, 3) := by decide +kernel
theorem dX3_init_8 : decode cX3_init 8 = .ok (.dup, 1) := by decide +kernel
theorem dX3_init_9 : decode cX3_init 9 = .ok (.bipush 12, 2) := by decide +kernel
theorem dX3_init_11 : decode cX3_init 11 = .ok (.iconst 1, 1) := by decide +kernel
theorem dX3_init_12 : decode cX3_init 12 = .ok (.invokespecial 11, 3) := by decide +kernel
theorem dX3_init_15 : decode cX3_init 15 = .ok (.putfield 14, 3) := by decide +kernel
theorem dX3_init_18 : decode cX3_init 18 = .ok (.aload_n 0, 1) := by decide +kernel
theorem dX3_init_19 : decode cX3_init 19 = .ok (.new 9, 3) := by decide +kernel
theorem dX3_init_22 : decode cX3_init 22 = .ok (.dup, 1) := by decide +kernel
theorem dX3_init_23 : decode cX3_init 23 = .ok (.bipush 12, 2) := by decide +kernel
theorem dX3_init_25 : decode cX3_init 25 = .ok (.iconst 1, 1) := by decide +kernel
theorem dX3_init_26 : decode cX3_init 26 = .ok (.invokespecial 11, 3) := by decide +kernel
theorem dX3_init_29 : decode cX3_init 29 = .ok (.putfield 20, 3) := by decide +kernel
theorem dX3_init_32 : decode cX3_init 32 = .ok (.aload_n 0, 1) := by decide +kernel
theorem dX3_init_33 : decode cX3_init 33 = .ok (.new 9, 3) := by decide +kernel
theorem dX3_init_36 : decode cX3_init 36 = .ok (.dup, 1) := by decide +kernel
theorem dX3_init_37 : decode cX3_init 37 = .ok (.bipush 12, 2) := by decide +kernel
theorem dX3_init_39 : decode cX3_init 39 = .ok (.iconst 1, 1) := by decide +kernel
theorem dX3_init_40 : decode cX3_init 40 = .ok (.invokespecial 11, 3) := by decide +kernel
theorem dX3_init_43 : decode cX3_init 43 = .ok (.putfield 23, 3) := by decide +kernel
theorem dX3_init_46 : decode cX3_init 46 = .ok (.aload_n 0, 1) := by decide +kernel
theorem dX3_init_47 : decode cX3_init 47 = .ok (.new 9, 3) := by decide +kernel
theorem dX3_init_50 : decode cX3_init 50 = .ok (.dup, 1) := by decide +kernel
theorem dX3_init_51 : decode cX3_init 51 = .ok (.iconst 5, 1) := by decide +kernel
theorem dX3_init_52 : decode cX3_init 52 = .ok (.iconst 1, 1) := by decide +kernel
theorem dX3_init_53 : decode cX3_init 53 = .ok (.invokespecial 11, 3) := by decide +kernel
theorem dX3_init_56 : decode cX3_init 56 = .ok (.putfield 26, 3) := by decide +kernel
theorem dX3_init_59 : decode cX3_init 59 = .ok (.aload_n 0, 1) := by decide +kernel
theorem dX3_init_60 : decode cX3_init 60 = .ok (.new 9, 3) := by decide +kernel
theorem dX3_init_63 : decode cX3_init 63 = .ok (.dup, 1) := by decide +kernel
theorem dX3_init_64 : decode cX3_init 64 = .ok (.iconst 5, 1) := by decide +kernel
theorem dX3_init_65 : decode cX3_init 65 = .ok (.iconst 1, 1) := by decide +kernel
theorem dX3_init_66 : decode cX3_init 66 = .ok (.invokespecial 11, 3) := by decide +kernel
theorem dX3_init_69 : decode cX3_init 69 = .ok (.putfield 29, 3) := by decide +kernel
theorem dX3_init_72 : decode cX3_init 72 = .ok (.aload_n 0, 1) := by decide +kernel
theorem dX3_init_73 : decode cX3_init 73 = .ok (.new 9, 3) := by decide +kernel
theorem dX3_init_76 : decode cX3_init 76 = .ok (.dup, 1) := by decide +kernel
theorem dX3_init_77 : decode cX3_init 77 = .ok (.iconst 5, 1) := by decide +kernel
theorem dX3_init_78 : decode cX3_init 78 = .ok (.iconst 1, 1) := by decide +kernel
theorem dX3_init_79 : decode cX3_init 79 = .ok (.invokespecial 11, 3) := by decide +kernel
theorem dX3_init_82 : decode cX3_init 82 = .ok (.putfield 32, 3) := by decide +kernel
theorem dX3_init_85 : decode cX3_init 85 = .ok (.return_, 1) := by decide +kernel
theorem dX3_begin_0 : decode cX3_begin 0 = .ok (.aload_n 0, 1) := by decide +kernel
theorem dX3_begin_1 : decode cX3_begin 1 = .ok (.iconst 0, 1) := by decide +kernel
theorem dX3_begin_2 : decode cX3_begin 2 = .ok (.putfield 35, 3) := by decide +kernel
theorem dX3_begin_5 : decode cX3_begin 5 = .ok (.aload_n 0, 1) := by decide +kernel
theorem dX3_begin_6 : decode cX3_begin 6 = .ok (.iconst 0, 1) := by decide +kernel
theorem dX3_begin_7 : decode cX3_begin 7 = .ok (.putfield 39, 3) := by decide +kernel
theorem dX3_begin_10 : decode cX3_begin 10 = .ok (.return_, 1) := by decide +kernel
theorem dX3_hasFateOf_0 : decode cX3_hasFateOf 0 = .ok (.aload_n 0, 1) := by decide +kernel
theorem dX3_hasFateOf_1 : decode cX3_hasFateOf 1 = .ok (.getfield 35, 3) := by decide +kernel
theorem dX3_hasFateOf_4 : decode cX3_hasFateOf 4 = .ok (.ifCond .eq 18, 3) := by decide +kernel
theorem dX3_hasFateOf_7 : decode cX3_hasFateOf 7 = .ok (.aload_n 0, 1) := by decide +kernel
theorem dX3_hasFateOf_8 : decode cX3_hasFateOf 8 = .ok (.getfield 42, 3) := by decide +kernel
theorem dX3_hasFateOf_11 : decode cX3_hasFateOf 11 = .ok (.iload_n 1, 1) := by decide +kernel
theorem dX3_hasFateOf_12 : decode cX3_hasFateOf 12 = .ok (.ishr, 1) := by decide +kernel
theorem dX3_hasFateOf_13 : decode cX3_hasFateOf 13 = .ok (.iconst 1, 1) := by decide +kernel
theorem dX3_hasFateOf_14 : decode cX3_hasFateOf 14 = .ok (.iand, 1) := by decide +kernel
theorem dX3_hasFateOf_15 : decode cX3_hasFateOf 15 = .ok (.ifCond .eq 7, 3) := by decide +kernel
theorem dX3_hasFateOf_18 : decode cX3_hasFateOf 18 = .ok (.iconst 1, 1) := by decide +kernel
theorem dX3_hasFateOf_19 : decode cX3_hasFateOf 19 = .ok (.goto 4, 3) := by decide +kernel
theorem dX3_hasFateOf_22 : decode cX3_hasFateOf 22 = .ok (.iconst 0, 1) := by decide +kernel
theorem dX3_hasFateOf_23 : decode cX3_hasFateOf 23 = .ok (.ireturn, 1) := by decide +kernel
set_option maxRecDepth 20000 in
theorem ggX3_leastFor_X3_findLosses : GoodIn wsX3_leastFor wsX3_findLosses := goodIn_r _ [7, 8, 9, 10, 11, 12, 13, 14, 15, 16, 17, 18, 19, 20, 21, 22, 23, 24, 25, 26, 27, 28, 29, 30, 31, 126, 127, 128, 129, 130, 131, 132, 133, 134, 135, 136, 137, 117, 118, 119, 120, 121, 122, 123, 124, 125, 138, 139] rfl (by decide +kernel)
set_option maxRecDepth 20000 in
theorem gX3_leastFor_X3_findLosses : GoodIn wsX3_leastFor (wsV RX3 52 RX3 yX3_findLosses wsX3_findLosses) := goodIn_app (goodIn_of _ (by decide +kernel)) ggX3_leastFor_X3_findLosses
set_option maxRecDepth 20000 in
theorem ggX3_leastFor_X7_thingsAt : GoodIn wsX3_leastFor wsX7_thingsAt := goodIn_r _ [36, 37, 38, 39, 40, 41, 42, 15, 43, 18, 114, 115, 116, 126, 127, 128, 129, 130, 131, 132, 133, 134, 135, 136, 137, 138, 139] rfl (by decide +kernel)
set_option maxRecDepth 20000 in
theorem gX3_leastFor_X7_thingsAt : GoodIn wsX3_leastFor (wsV RX3 56 RX7 yX7_thingsAt wsX7_thingsAt) := goodIn_app (goodIn_of _ (by decide +kernel)) ggX3_leastFor_X7_thingsAt
set_option maxRecDepth 20000 in
theorem ggX3_leastFor_X7_feeOf : GoodIn wsX3_leastFor wsX7_feeOf := goodIn_r _ [47, 48, 33, 34, 35, 36, 37, 38, 39, 40, 41, 42, 15, 43, 18, 49, 50, 51, 52, 53, 54, 55, 56, 57, 22, 58, 59, 24, 27, 13, 14, 16, 17, 60, 61, 62, 63, 64, 65, 66, 67, 68, 69, 70, 71, 72, 73, 74, 75, 76, 77, 78, 79, 80, 81, 82, 83, 84, 85, 86, 29, 30, 31, 87, 88, 89, 90, 91, 92, 93, 94, 114, 115, 116, 126, 127, 128, 129, 130, 131, 132, 133, 134, 135, 136, 137, 138, 139, 140, 141, 142, 143, 144, 145] rfl (by decide +kernel)
set_option maxRecDepth 20000 in
theorem gX3_leastFor_X7_feeOf : GoodIn wsX3_leastFor (wsV RX3 60 RX7 yX7_feeOf wsX7_feeOf) := goodIn_app (goodIn_of _ (by decide +kernel)) ggX3_leastFor_X7_feeOf
set_option maxRecDepth 20000 in
theorem ggX3_leastFor_X3_lossOf : GoodIn wsX3_leastFor wsX3_lossOf := goodIn_r _ [98, 10, 99, 41, 42, 15, 43, 18, 117, 118, 119, 120, 121, 122, 123, 124, 125, 138, 139] rfl (by decide +kernel)
set_option maxRecDepth 20000 in
theorem gX3_leastFor_X3_lossOf : GoodIn wsX3_leastFor (wsV RX3 63 RX3 yX3_lossOf wsX3_lossOf) := goodIn_app (goodIn_of _ (by decide +kernel)) ggX3_leastFor_X3_lossOf
set_option maxRecDepth 20000 in
theorem ggX3_leastFor_X7_feeWith : GoodIn wsX3_leastFor wsX7_feeWith := goodIn_r _ [52, 37, 53, 54, 55, 56, 57, 22, 58, 59, 24, 27, 13, 14, 15, 16, 17, 18, 60, 61, 62, 63, 64, 65, 66, 67, 68, 69, 70, 71, 72, 73, 74, 75, 76, 77, 78, 79, 80, 81, 82, 83, 84, 85, 86, 29, 30, 31, 87, 41, 42, 43, 88, 89, 90, 91, 92, 93, 94, 114, 115, 116, 126, 127, 128, 129, 130, 131, 132, 133, 134, 135, 136, 137, 138, 139, 140, 141, 142, 143, 144, 145] rfl (by decide +kernel)
set_option maxRecDepth 20000 in
theorem gX3_leastFor_X7_feeWith : GoodIn wsX3_leastFor (wsV RX3 66 RX7 yX7_feeWith wsX7_feeWith) := goodIn_app (goodIn_of _ (by decide +kernel)) ggX3_leastFor_X7_feeWith
set_option maxRecDepth 20000 in
theorem ggX3_leastFor_X3_rowOf : GoodIn wsX3_leastFor wsX3_rowOf := goodIn_r _ [104, 105, 106, 107, 6, 108, 11, 99, 41, 42, 15, 43, 18, 117, 118, 119, 120, 121, 122, 123, 124, 125, 138, 139] rfl (by decide +kernel)
set_option maxRecDepth 20000 in
theorem gX3_leastFor_X3_rowOf : GoodIn wsX3_leastFor (wsV RX3 70 RX3 yX3_rowOf wsX3_rowOf) := goodIn_app (goodIn_of _ (by decide +kernel)) ggX3_leastFor_X3_rowOf
set_option maxRecDepth 20000 in
theorem ggX3_leastFor_X3_keepRow : GoodIn wsX3_leastFor wsX3_keepRow := goodIn_r _ [112, 113, 105, 106, 107, 6, 108, 11, 99, 41, 42, 15, 43, 18, 28, 29, 30, 31, 117, 118, 119, 120, 121, 122, 123, 124, 125, 138, 139] rfl (by decide +kernel)
set_option maxRecDepth 20000 in
theorem gX3_leastFor_X3_keepRow : GoodIn wsX3_leastFor (wsV RX3 73 RX3 yX3_keepRow wsX3_keepRow) := goodIn_app (goodIn_of _ (by decide +kernel)) ggX3_leastFor_X3_keepRow
theorem dX3_leastFor_0 : decode cX3_leastFor 0 = .ok (.aload_n 0, 1) := by decide +kernel
theorem dX3_leastFor_1 : decode cX3_leastFor 1 = .ok (.aload_n 1, 1) := by decide +kernel
theorem dX3_leastFor_2 : decode cX3_leastFor 2 = .ok (.getfield 46, 3) := by decide +kernel
theorem dX3_leastFor_5 : decode cX3_leastFor 5 = .ok (.invokevirtual 52, 3) := by decide +kernel
theorem dX3_leastFor_8 : decode cX3_leastFor 8 = .ok (.aload_n 0, 1) := by decide +kernel
theorem dX3_leastFor_9 : decode cX3_leastFor 9 = .ok (.aload_n 1, 1) := by decide +kernel
theorem dX3_leastFor_10 : decode cX3_leastFor 10 = .ok (.iload_n 2, 1) := by decide +kernel
theorem dX3_leastFor_11 : decode cX3_leastFor 11 = .ok (.invokevirtual 56, 3) := by decide +kernel
theorem dX3_leastFor_14 : decode cX3_leastFor 14 = .ok (.putfield 42, 3) := by decide +kernel
theorem dX3_leastFor_17 : decode cX3_leastFor 17 = .ok (.aload_n 0, 1) := by decide +kernel
theorem dX3_leastFor_18 : decode cX3_leastFor 18 = .ok (.iconst 1, 1) := by decide +kernel
theorem dX3_leastFor_19 : decode cX3_leastFor 19 = .ok (.putfield 35, 3) := by decide +kernel
theorem dX3_leastFor_22 : decode cX3_leastFor 22 = .ok (.iconst 0, 1) := by decide +kernel
theorem dX3_leastFor_23 : decode cX3_leastFor 23 = .ok (.istore_n 3, 1) := by decide +kernel
theorem dX3_leastFor_24 : decode cX3_leastFor 24 = .ok (.aload_n 1, 1) := by decide +kernel
theorem dX3_leastFor_25 : decode cX3_leastFor 25 = .ok (.iload_n 2, 1) := by decide +kernel
theorem dX3_leastFor_26 : decode cX3_leastFor 26 = .ok (.invokevirtual 60, 3) := by decide +kernel
theorem dX3_leastFor_29 : decode cX3_leastFor 29 = .ok (.istore 4, 2) := by decide +kernel
theorem dX3_leastFor_31 : decode cX3_leastFor 31 = .ok (.iconst 1, 1) := by decide +kernel
theorem dX3_leastFor_32 : decode cX3_leastFor 32 = .ok (.istore 5, 2) := by decide +kernel
theorem dX3_leastFor_34 : decode cX3_leastFor 34 = .ok (.iload 5, 2) := by decide +kernel
theorem dX3_leastFor_36 : decode cX3_leastFor 36 = .ok (.sipush 4096, 3) := by decide +kernel
theorem dX3_leastFor_39 : decode cX3_leastFor 39 = .ok (.if_icmp .ge 93, 3) := by decide +kernel
theorem dX3_leastFor_42 : decode cX3_leastFor 42 = .ok (.iload 5, 2) := by decide +kernel
theorem dX3_leastFor_44 : decode cX3_leastFor 44 = .ok (.aload_n 0, 1) := by decide +kernel
theorem dX3_leastFor_45 : decode cX3_leastFor 45 = .ok (.getfield 42, 3) := by decide +kernel
theorem dX3_leastFor_48 : decode cX3_leastFor 48 = .ok (.iconst (-1), 1) := by decide +kernel
theorem dX3_leastFor_49 : decode cX3_leastFor 49 = .ok (.ixor, 1) := by decide +kernel
theorem dX3_leastFor_50 : decode cX3_leastFor 50 = .ok (.iand, 1) := by decide +kernel
theorem dX3_leastFor_51 : decode cX3_leastFor 51 = .ok (.ifCond .ne 75, 3) := by decide +kernel
theorem dX3_leastFor_54 : decode cX3_leastFor 54 = .ok (.aload_n 0, 1) := by decide +kernel
theorem dX3_leastFor_55 : decode cX3_leastFor 55 = .ok (.iload 5, 2) := by decide +kernel
theorem dX3_leastFor_57 : decode cX3_leastFor 57 = .ok (.invokevirtual 63, 3) := by decide +kernel
theorem dX3_leastFor_60 : decode cX3_leastFor 60 = .ok (.iload 4, 2) := by decide +kernel
theorem dX3_leastFor_62 : decode cX3_leastFor 62 = .ok (.if_icmp .le 6, 3) := by decide +kernel
theorem dX3_leastFor_65 : decode cX3_leastFor 65 = .ok (.goto 61, 3) := by decide +kernel
theorem dX3_leastFor_68 : decode cX3_leastFor 68 = .ok (.aload_n 0, 1) := by decide +kernel
theorem dX3_leastFor_69 : decode cX3_leastFor 69 = .ok (.iload 5, 2) := by decide +kernel
theorem dX3_leastFor_71 : decode cX3_leastFor 71 = .ok (.invokevirtual 63, 3) := by decide +kernel
theorem dX3_leastFor_74 : decode cX3_leastFor 74 = .ok (.aload_n 1, 1) := by decide +kernel
theorem dX3_leastFor_75 : decode cX3_leastFor 75 = .ok (.iload_n 2, 1) := by decide +kernel
theorem dX3_leastFor_76 : decode cX3_leastFor 76 = .ok (.aload_n 0, 1) := by decide +kernel
theorem dX3_leastFor_77 : decode cX3_leastFor 77 = .ok (.getfield 42, 3) := by decide +kernel
theorem dX3_leastFor_80 : decode cX3_leastFor 80 = .ok (.iload 5, 2) := by decide +kernel
theorem dX3_leastFor_82 : decode cX3_leastFor 82 = .ok (.iconst (-1), 1) := by decide +kernel
theorem dX3_leastFor_83 : decode cX3_leastFor 83 = .ok (.ixor, 1) := by decide +kernel
theorem dX3_leastFor_84 : decode cX3_leastFor 84 = .ok (.iand, 1) := by decide +kernel
theorem dX3_leastFor_85 : decode cX3_leastFor 85 = .ok (.invokevirtual 66, 3) := by decide +kernel
theorem dX3_leastFor_88 : decode cX3_leastFor 88 = .ok (.iadd, 1) := by decide +kernel
theorem dX3_leastFor_89 : decode cX3_leastFor 89 = .ok (.istore 6, 2) := by decide +kernel
theorem dX3_leastFor_91 : decode cX3_leastFor 91 = .ok (.iload 6, 2) := by decide +kernel
theorem dX3_leastFor_93 : decode cX3_leastFor 93 = .ok (.iload 4, 2) := by decide +kernel
theorem dX3_leastFor_95 : decode cX3_leastFor 95 = .ok (.if_icmp .lt 24, 3) := by decide +kernel
theorem dX3_leastFor_98 : decode cX3_leastFor 98 = .ok (.iload 6, 2) := by decide +kernel
theorem dX3_leastFor_100 : decode cX3_leastFor 100 = .ok (.iload 4, 2) := by decide +kernel
theorem dX3_leastFor_102 : decode cX3_leastFor 102 = .ok (.if_icmp .ne 24, 3) := by decide +kernel
theorem dX3_leastFor_105 : decode cX3_leastFor 105 = .ok (.aload_n 0, 1) := by decide +kernel
theorem dX3_leastFor_106 : decode cX3_leastFor 106 = .ok (.iload 5, 2) := by decide +kernel
theorem dX3_leastFor_108 : decode cX3_leastFor 108 = .ok (.invokevirtual 70, 3) := by decide +kernel
theorem dX3_leastFor_111 : decode cX3_leastFor 111 = .ok (.aload_n 0, 1) := by decide +kernel
theorem dX3_leastFor_112 : decode cX3_leastFor 112 = .ok (.iload_n 3, 1) := by decide +kernel
theorem dX3_leastFor_113 : decode cX3_leastFor 113 = .ok (.invokevirtual 70, 3) := by decide +kernel
theorem dX3_leastFor_116 : decode cX3_leastFor 116 = .ok (.if_icmp .ge 10, 3) := by decide +kernel
theorem dX3_leastFor_119 : decode cX3_leastFor 119 = .ok (.iload 6, 2) := by decide +kernel
theorem dX3_leastFor_121 : decode cX3_leastFor 121 = .ok (.istore 4, 2) := by decide +kernel
theorem dX3_leastFor_123 : decode cX3_leastFor 123 = .ok (.iload 5, 2) := by decide +kernel
theorem dX3_leastFor_125 : decode cX3_leastFor 125 = .ok (.istore_n 3, 1) := by decide +kernel
theorem dX3_leastFor_126 : decode cX3_leastFor 126 = .ok (.iinc 5 1, 3) := by decide +kernel
theorem dX3_leastFor_129 : decode cX3_leastFor 129 = .ok (.goto (-95), 3) := by decide +kernel
theorem dX3_leastFor_132 : decode cX3_leastFor 132 = .ok (.aload_n 0, 1) := by decide +kernel
theorem dX3_leastFor_133 : decode cX3_leastFor 133 = .ok (.iload_n 3, 1) := by decide +kernel
theorem dX3_leastFor_134 : decode cX3_leastFor 134 = .ok (.invokevirtual 73, 3) := by decide +kernel
theorem dX3_leastFor_137 : decode cX3_leastFor 137 = .ok (.iload 4, 2) := by decide +kernel
theorem dX3_leastFor_139 : decode cX3_leastFor 139 = .ok (.ireturn, 1) := by decide +kernel
set_option maxRecDepth 20000 in
theorem ggX3_findLosses_X8_at_ : GoodIn wsX3_findLosses wsX8_at_ := goodIn_r _ [9, 10, 11, 46, 47] rfl (by decide +kernel)
set_option maxRecDepth 20000 in
theorem gX3_findLosses_X8_at_ : GoodIn wsX3_findLosses (wsV RX3 85 RX8 yX8_at_ wsX8_at_) := goodIn_app (goodIn_of _ (by decide +kernel)) ggX3_findLosses_X8_at_
set_option maxRecDepth 20000 in
theorem ggX3_findLosses_X0_priceOf : GoodIn wsX3_findLosses wsX0_priceOf := goodIn_r _ [16, 17, 18, 19, 20, 6, 7, 8, 9, 10, 11, 25, 26, 27, 28, 29, 30, 31, 32, 33, 34, 35, 36, 46, 47] rfl (by decide +kernel)
set_option maxRecDepth 20000 in
theorem gX3_findLosses_X0_priceOf : GoodIn wsX3_findLosses (wsV RX3 88 RX0 yX0_priceOf wsX0_priceOf) := goodIn_app (goodIn_of _ (by decide +kernel)) ggX3_findLosses_X0_priceOf
set_option maxRecDepth 20000 in
theorem ggX3_findLosses_X8_set : GoodIn wsX3_findLosses wsX8_set := goodIn_r _ [24, 11, 46, 47] rfl (by decide +kernel)
set_option maxRecDepth 20000 in
theorem gX3_findLosses_X8_set : GoodIn wsX3_findLosses (wsV RX3 91 RX8 yX8_set wsX8_set) := goodIn_app (goodIn_of _ (by decide +kernel)) ggX3_findLosses_X8_set
theorem dX3_findLosses_0 : decode cX3_findLosses 0 = .ok (.iconst 0, 1) := by decide +kernel
theorem dX3_findLosses_1 : decode cX3_findLosses 1 = .ok (.istore_n 2, 1) := by decide +kernel
theorem dX3_findLosses_2 : decode cX3_findLosses 2 = .ok (.iload_n 2, 1) := by decide +kernel
theorem dX3_findLosses_3 : decode cX3_findLosses 3 = .ok (.aload_n 1, 1) := by decide +kernel
theorem dX3_findLosses_4 : decode cX3_findLosses 4 = .ok (.getfield 77, 3) := by decide +kernel
theorem dX3_findLosses_7 : decode cX3_findLosses 7 = .ok (.if_icmp .ge 82, 3) := by decide +kernel
theorem dX3_findLosses_10 : decode cX3_findLosses 10 = .ok (.aload_n 1, 1) := by decide +kernel
theorem dX3_findLosses_11 : decode cX3_findLosses 11 = .ok (.getfield 82, 3) := by decide +kernel
theorem dX3_findLosses_14 : decode cX3_findLosses 14 = .ok (.iload_n 2, 1) := by decide +kernel
theorem dX3_findLosses_15 : decode cX3_findLosses 15 = .ok (.iconst 4, 1) := by decide +kernel
theorem dX3_findLosses_16 : decode cX3_findLosses 16 = .ok (.invokevirtual 85, 3) := by decide +kernel
theorem dX3_findLosses_19 : decode cX3_findLosses 19 = .ok (.istore_n 3, 1) := by decide +kernel
theorem dX3_findLosses_20 : decode cX3_findLosses 20 = .ok (.aload_n 1, 1) := by decide +kernel
theorem dX3_findLosses_21 : decode cX3_findLosses 21 = .ok (.iload_n 2, 1) := by decide +kernel
theorem dX3_findLosses_22 : decode cX3_findLosses 22 = .ok (.invokevirtual 88, 3) := by decide +kernel
theorem dX3_findLosses_25 : decode cX3_findLosses 25 = .ok (.istore 4, 2) := by decide +kernel
theorem dX3_findLosses_27 : decode cX3_findLosses 27 = .ok (.iload 4, 2) := by decide +kernel
theorem dX3_findLosses_29 : decode cX3_findLosses 29 = .ok (.iconst (-1), 1) := by decide +kernel
theorem dX3_findLosses_30 : decode cX3_findLosses 30 = .ok (.if_icmp .eq 13, 3) := by decide +kernel
theorem dX3_findLosses_33 : decode cX3_findLosses 33 = .ok (.iload 4, 2) := by decide +kernel
theorem dX3_findLosses_35 : decode cX3_findLosses 35 = .ok (.iload_n 3, 1) := by decide +kernel
theorem dX3_findLosses_36 : decode cX3_findLosses 36 = .ok (.if_icmp .ge 7, 3) := by decide +kernel
theorem dX3_findLosses_39 : decode cX3_findLosses 39 = .ok (.iconst 1, 1) := by decide +kernel
theorem dX3_findLosses_40 : decode cX3_findLosses 40 = .ok (.goto 4, 3) := by decide +kernel
theorem dX3_findLosses_43 : decode cX3_findLosses 43 = .ok (.iconst 0, 1) := by decide +kernel
theorem dX3_findLosses_44 : decode cX3_findLosses 44 = .ok (.istore 5, 2) := by decide +kernel
theorem dX3_findLosses_46 : decode cX3_findLosses 46 = .ok (.aload_n 0, 1) := by decide +kernel
theorem dX3_findLosses_47 : decode cX3_findLosses 47 = .ok (.getfield 20, 3) := by decide +kernel
theorem dX3_findLosses_50 : decode cX3_findLosses 50 = .ok (.iload_n 2, 1) := by decide +kernel
theorem dX3_findLosses_51 : decode cX3_findLosses 51 = .ok (.iload 5, 2) := by decide +kernel
theorem dX3_findLosses_53 : decode cX3_findLosses 53 = .ok (.ifCond .eq 8, 3) := by decide +kernel
theorem dX3_findLosses_56 : decode cX3_findLosses 56 = .ok (.iload 4, 2) := by decide +kernel
theorem dX3_findLosses_58 : decode cX3_findLosses 58 = .ok (.goto 4, 3) := by decide +kernel
theorem dX3_findLosses_61 : decode cX3_findLosses 61 = .ok (.iload_n 3, 1) := by decide +kernel
theorem dX3_findLosses_62 : decode cX3_findLosses 62 = .ok (.invokevirtual 91, 3) := by decide +kernel
theorem dX3_findLosses_65 : decode cX3_findLosses 65 = .ok (.aload_n 0, 1) := by decide +kernel
theorem dX3_findLosses_66 : decode cX3_findLosses 66 = .ok (.getfield 23, 3) := by decide +kernel
theorem dX3_findLosses_69 : decode cX3_findLosses 69 = .ok (.iload_n 2, 1) := by decide +kernel
theorem dX3_findLosses_70 : decode cX3_findLosses 70 = .ok (.iload 5, 2) := by decide +kernel
theorem dX3_findLosses_72 : decode cX3_findLosses 72 = .ok (.ifCond .eq 7, 3) := by decide +kernel
theorem dX3_findLosses_75 : decode cX3_findLosses 75 = .ok (.iconst 2, 1) := by decide +kernel
theorem dX3_findLosses_76 : decode cX3_findLosses 76 = .ok (.goto 4, 3) := by decide +kernel
theorem dX3_findLosses_79 : decode cX3_findLosses 79 = .ok (.iconst 1, 1) := by decide +kernel
theorem dX3_findLosses_80 : decode cX3_findLosses 80 = .ok (.invokevirtual 91, 3) := by decide +kernel
theorem dX3_findLosses_83 : decode cX3_findLosses 83 = .ok (.iinc 2 1, 3) := by decide +kernel
theorem dX3_findLosses_86 : decode cX3_findLosses 86 = .ok (.goto (-84), 3) := by decide +kernel
theorem dX3_findLosses_89 : decode cX3_findLosses 89 = .ok (.return_, 1) := by decide +kernel
set_option maxRecDepth 20000 in
theorem ggX3_lossOf_X8_at : GoodIn wsX3_lossOf wsX8_at := goodIn_r _ [6, 7, 17, 18] rfl (by decide +kernel)
set_option maxRecDepth 20000 in
theorem gX3_lossOf_X8_at : GoodIn wsX3_lossOf (wsV RX3 94 RX8 yX8_at wsX8_at) := goodIn_app (goodIn_of _ (by decide +kernel)) ggX3_lossOf_X8_at
theorem dX3_lossOf_0 : decode cX3_lossOf 0 = .ok (.iconst 0, 1) := by decide +kernel
theorem dX3_lossOf_1 : decode cX3_lossOf 1 = .ok (.istore_n 2, 1) := by decide +kernel
theorem dX3_lossOf_2 : decode cX3_lossOf 2 = .ok (.iconst 0, 1) := by decide +kernel
theorem dX3_lossOf_3 : decode cX3_lossOf 3 = .ok (.istore_n 3, 1) := by decide +kernel
theorem dX3_lossOf_4 : decode cX3_lossOf 4 = .ok (.iload_n 3, 1) := by decide +kernel
theorem dX3_lossOf_5 : decode cX3_lossOf 5 = .ok (.bipush 12, 2) := by decide +kernel
theorem dX3_lossOf_7 : decode cX3_lossOf 7 = .ok (.if_icmp .ge 32, 3) := by decide +kernel
theorem dX3_lossOf_10 : decode cX3_lossOf 10 = .ok (.iload_n 2, 1) := by decide +kernel
theorem dX3_lossOf_11 : decode cX3_lossOf 11 = .ok (.iload_n 1, 1) := by decide +kernel
theorem dX3_lossOf_12 : decode cX3_lossOf 12 = .ok (.iload_n 3, 1) := by decide +kernel
theorem dX3_lossOf_13 : decode cX3_lossOf 13 = .ok (.ishr, 1) := by decide +kernel
theorem dX3_lossOf_14 : decode cX3_lossOf 14 = .ok (.iconst 1, 1) := by decide +kernel
theorem dX3_lossOf_15 : decode cX3_lossOf 15 = .ok (.iand, 1) := by decide +kernel
theorem dX3_lossOf_16 : decode cX3_lossOf 16 = .ok (.ifCond .eq 14, 3) := by decide +kernel
theorem dX3_lossOf_19 : decode cX3_lossOf 19 = .ok (.aload_n 0, 1) := by decide +kernel
theorem dX3_lossOf_20 : decode cX3_lossOf 20 = .ok (.getfield 20, 3) := by decide +kernel
theorem dX3_lossOf_23 : decode cX3_lossOf 23 = .ok (.iload_n 3, 1) := by decide +kernel
theorem dX3_lossOf_24 : decode cX3_lossOf 24 = .ok (.invokevirtual 94, 3) := by decide +kernel
theorem dX3_lossOf_27 : decode cX3_lossOf 27 = .ok (.goto 4, 3) := by decide +kernel
theorem dX3_lossOf_30 : decode cX3_lossOf 30 = .ok (.iconst 0, 1) := by decide +kernel
theorem dX3_lossOf_31 : decode cX3_lossOf 31 = .ok (.iadd, 1) := by decide +kernel
theorem dX3_lossOf_32 : decode cX3_lossOf 32 = .ok (.istore_n 2, 1) := by decide +kernel
theorem dX3_lossOf_33 : decode cX3_lossOf 33 = .ok (.iinc 3 1, 3) := by decide +kernel
theorem dX3_lossOf_36 : decode cX3_lossOf 36 = .ok (.goto (-32), 3) := by decide +kernel
theorem dX3_lossOf_39 : decode cX3_lossOf 39 = .ok (.iload_n 2, 1) := by decide +kernel
theorem dX3_lossOf_40 : decode cX3_lossOf 40 = .ok (.ireturn, 1) := by decide +kernel
set_option maxRecDepth 20000 in
theorem ggX3_fateWith_X8_at : GoodIn wsX3_fateWith wsX8_at := goodIn_r _ [6, 7, 17, 18] rfl (by decide +kernel)
set_option maxRecDepth 20000 in
theorem gX3_fateWith_X8_at : GoodIn wsX3_fateWith (wsV RX3 94 RX8 yX8_at wsX8_at) := goodIn_app (goodIn_of _ (by decide +kernel)) ggX3_fateWith_X8_at
theorem dX3_fateWith_0 : decode cX3_fateWith 0 = .ok (.iload_n 1, 1) := by decide +kernel
theorem dX3_fateWith_1 : decode cX3_fateWith 1 = .ok (.iload_n 2, 1) := by decide +kernel
theorem dX3_fateWith_2 : decode cX3_fateWith 2 = .ok (.ishr, 1) := by decide +kernel
theorem dX3_fateWith_3 : decode cX3_fateWith 3 = .ok (.iconst 1, 1) := by decide +kernel
theorem dX3_fateWith_4 : decode cX3_fateWith 4 = .ok (.iand, 1) := by decide +kernel
theorem dX3_fateWith_5 : decode cX3_fateWith 5 = .ok (.ifCond .eq 14, 3) := by decide +kernel
theorem dX3_fateWith_8 : decode cX3_fateWith 8 = .ok (.aload_n 0, 1) := by decide +kernel
theorem dX3_fateWith_9 : decode cX3_fateWith 9 = .ok (.getfield 23, 3) := by decide +kernel
theorem dX3_fateWith_12 : decode cX3_fateWith 12 = .ok (.iload_n 2, 1) := by decide +kernel
theorem dX3_fateWith_13 : decode cX3_fateWith 13 = .ok (.invokevirtual 94, 3) := by decide +kernel
theorem dX3_fateWith_16 : decode cX3_fateWith 16 = .ok (.goto 4, 3) := by decide +kernel
theorem dX3_fateWith_19 : decode cX3_fateWith 19 = .ok (.iconst 0, 1) := by decide +kernel
theorem dX3_fateWith_20 : decode cX3_fateWith 20 = .ok (.ireturn, 1) := by decide +kernel
set_option maxRecDepth 20000 in
theorem ggX3_rowOf_X3_fateWith : GoodIn wsX3_rowOf wsX3_fateWith := goodIn_r _ [5, 6, 7, 8, 9, 10, 11, 12, 13, 14, 15, 16, 17, 18, 19, 20, 21, 22, 23] rfl (by decide +kernel)
set_option maxRecDepth 20000 in
theorem gX3_rowOf_X3_fateWith : GoodIn wsX3_rowOf (wsV RX3 96 RX3 yX3_fateWith wsX3_fateWith) := goodIn_app (goodIn_of _ (by decide +kernel)) ggX3_rowOf_X3_fateWith
theorem dX3_rowOf_0 : decode cX3_rowOf 0 = .ok (.iconst 0, 1) := by decide +kernel
theorem dX3_rowOf_1 : decode cX3_rowOf 1 = .ok (.istore_n 2, 1) := by decide +kernel
theorem dX3_rowOf_2 : decode cX3_rowOf 2 = .ok (.iconst 0, 1) := by decide +kernel
theorem dX3_rowOf_3 : decode cX3_rowOf 3 = .ok (.istore_n 3, 1) := by decide +kernel
theorem dX3_rowOf_4 : decode cX3_rowOf 4 = .ok (.iload_n 3, 1) := by decide +kernel
theorem dX3_rowOf_5 : decode cX3_rowOf 5 = .ok (.bipush 12, 2) := by decide +kernel
theorem dX3_rowOf_7 : decode cX3_rowOf 7 = .ok (.if_icmp .ge 20, 3) := by decide +kernel
theorem dX3_rowOf_10 : decode cX3_rowOf 10 = .ok (.iload_n 2, 1) := by decide +kernel
theorem dX3_rowOf_11 : decode cX3_rowOf 11 = .ok (.iconst 3, 1) := by decide +kernel
theorem dX3_rowOf_12 : decode cX3_rowOf 12 = .ok (.imul, 1) := by decide +kernel
theorem dX3_rowOf_13 : decode cX3_rowOf 13 = .ok (.aload_n 0, 1) := by decide +kernel
theorem dX3_rowOf_14 : decode cX3_rowOf 14 = .ok (.iload_n 1, 1) := by decide +kernel
theorem dX3_rowOf_15 : decode cX3_rowOf 15 = .ok (.iload_n 3, 1) := by decide +kernel
theorem dX3_rowOf_16 : decode cX3_rowOf 16 = .ok (.invokevirtual 96, 3) := by decide +kernel
theorem dX3_rowOf_19 : decode cX3_rowOf 19 = .ok (.iadd, 1) := by decide +kernel
theorem dX3_rowOf_20 : decode cX3_rowOf 20 = .ok (.istore_n 2, 1) := by decide +kernel
theorem dX3_rowOf_21 : decode cX3_rowOf 21 = .ok (.iinc 3 1, 3) := by decide +kernel
theorem dX3_rowOf_24 : decode cX3_rowOf 24 = .ok (.goto (-20), 3) := by decide +kernel
theorem dX3_rowOf_27 : decode cX3_rowOf 27 = .ok (.iload_n 2, 1) := by decide +kernel
theorem dX3_rowOf_28 : decode cX3_rowOf 28 = .ok (.ireturn, 1) := by decide +kernel
set_option maxRecDepth 20000 in
theorem ggX3_keepRow_X3_fateWith : GoodIn wsX3_keepRow wsX3_fateWith := goodIn_r _ [6, 7, 8, 9, 10, 11, 12, 13, 18, 19, 20, 21, 22, 23, 24, 25, 26, 27, 28] rfl (by decide +kernel)
set_option maxRecDepth 20000 in
theorem gX3_keepRow_X3_fateWith : GoodIn wsX3_keepRow (wsV RX3 96 RX3 yX3_fateWith wsX3_fateWith) := goodIn_app (goodIn_of _ (by decide +kernel)) ggX3_keepRow_X3_fateWith
set_option maxRecDepth 20000 in
theorem ggX3_keepRow_X8_set : GoodIn wsX3_keepRow wsX8_set := goodIn_r _ [17, 13, 27, 28] rfl (by decide +kernel)
set_option maxRecDepth 20000 in
theorem gX3_keepRow_X8_set : GoodIn wsX3_keepRow (wsV RX3 91 RX8 yX8_set wsX8_set) := goodIn_app (goodIn_of _ (by decide +kernel)) ggX3_keepRow_X8_set
theorem dX3_keepRow_0 : decode cX3_keepRow 0 = .ok (.iconst 0, 1) := by decide +kernel
theorem dX3_keepRow_1 : decode cX3_keepRow 1 = .ok (.istore_n 2, 1) := by decide +kernel
theorem dX3_keepRow_2 : decode cX3_keepRow 2 = .ok (.iload_n 2, 1) := by decide +kernel
theorem dX3_keepRow_3 : decode cX3_keepRow 3 = .ok (.bipush 12, 2) := by decide +kernel
theorem dX3_keepRow_5 : decode cX3_keepRow 5 = .ok (.if_icmp .ge 23, 3) := by decide +kernel
theorem dX3_keepRow_8 : decode cX3_keepRow 8 = .ok (.aload_n 0, 1) := by decide +kernel
theorem dX3_keepRow_9 : decode cX3_keepRow 9 = .ok (.getfield 14, 3) := by decide +kernel
theorem dX3_keepRow_12 : decode cX3_keepRow 12 = .ok (.iload_n 2, 1) := by decide +kernel
theorem dX3_keepRow_13 : decode cX3_keepRow 13 = .ok (.aload_n 0, 1) := by decide +kernel
theorem dX3_keepRow_14 : decode cX3_keepRow 14 = .ok (.iload_n 1, 1) := by decide +kernel
theorem dX3_keepRow_15 : decode cX3_keepRow 15 = .ok (.iload_n 2, 1) := by decide +kernel
theorem dX3_keepRow_16 : decode cX3_keepRow 16 = .ok (.invokevirtual 96, 3) := by decide +kernel
theorem dX3_keepRow_19 : decode cX3_keepRow 19 = .ok (.invokevirtual 91, 3) := by decide +kernel
theorem dX3_keepRow_22 : decode cX3_keepRow 22 = .ok (.iinc 2 1, 3) := by decide +kernel
theorem dX3_keepRow_25 : decode cX3_keepRow 25 = .ok (.goto (-23), 3) := by decide +kernel
theorem dX3_keepRow_28 : decode cX3_keepRow 28 = .ok (.return_, 1) := by decide +kernel
set_option maxRecDepth 20000 in
theorem ggX3_coatsToWear_X3_coatsOf : GoodIn wsX3_coatsToWear wsX3_coatsOf := goodIn_r _ [6, 7, 8, 9, 10, 11, 12, 13, 14, 15, 16, 17, 18, 19, 20, 21, 22, 23, 24, 25, 26, 27, 28, 29, 30, 31, 32, 33, 34, 35, 46, 47, 48, 49, 50, 51, 52, 53, 54, 55, 56, 57, 58, 59, 60, 61, 62] rfl (by decide +kernel)
set_option maxRecDepth 20000 in
theorem gX3_coatsToWear_X3_coatsOf : GoodIn wsX3_coatsToWear (wsV RX3 99 RX3 yX3_coatsOf wsX3_coatsOf) := goodIn_app (goodIn_of _ (by decide +kernel)) ggX3_coatsToWear_X3_coatsOf
set_option maxRecDepth 20000 in
theorem ggX3_coatsToWear_X8_at_ : GoodIn wsX3_coatsToWear wsX8_at_ := goodIn_r _ [13, 14, 15, 61, 62] rfl (by decide +kernel)
set_option maxRecDepth 20000 in
theorem gX3_coatsToWear_X8_at_ : GoodIn wsX3_coatsToWear (wsV RX3 85 RX8 yX8_at_ wsX8_at_) := goodIn_app (goodIn_of _ (by decide +kernel)) ggX3_coatsToWear_X8_at_
set_option maxRecDepth 20000 in
theorem ggX3_coatsToWear_X7_heatOn : GoodIn wsX3_coatsToWear wsX7_heatOn := goodIn_r _ [39, 21, 40, 17, 18, 19, 20, 22, 23, 24, 25, 26, 12, 27, 15, 41, 42, 43, 31, 44, 33, 34, 35, 10, 11, 13, 14, 46, 47, 48, 49, 50, 51, 52, 53, 54, 55, 56, 57, 58, 59, 60, 61, 62] rfl (by decide +kernel)
set_option maxRecDepth 20000 in
theorem gX3_coatsToWear_X7_heatOn : GoodIn wsX3_coatsToWear (wsV RX3 106 RX7 yX7_heatOn wsX7_heatOn) := goodIn_app (goodIn_of _ (by decide +kernel)) ggX3_coatsToWear_X7_heatOn
set_option maxRecDepth 20000 in
theorem ggX3_coatsToWear_X0_sumOf : GoodIn wsX3_coatsToWear wsX0_sumOf := goodIn_r _ [44, 33, 34, 35, 10, 11, 12, 13, 14, 15, 49, 50, 51, 52, 53, 54, 55, 56, 57, 58, 59, 60, 61, 62] rfl (by decide +kernel)
set_option maxRecDepth 20000 in
theorem gX3_coatsToWear_X0_sumOf : GoodIn wsX3_coatsToWear (wsV RX3 109 RX0 yX0_sumOf wsX0_sumOf) := goodIn_app (goodIn_of _ (by decide +kernel)) ggX3_coatsToWear_X0_sumOf
theorem dX3_coatsToWear_0 : decode cX3_coatsToWear 0 = .ok (.aload_n 1, 1) := by decide +kernel
theorem dX3_coatsToWear_1 : decode cX3_coatsToWear 1 = .ok (.getfield 46, 3) := by decide +kernel
theorem dX3_coatsToWear_4 : decode cX3_coatsToWear 4 = .ok (.astore 4, 2) := by decide +kernel
theorem dX3_coatsToWear_6 : decode cX3_coatsToWear 6 = .ok (.aload_n 0, 1) := by decide +kernel
theorem dX3_coatsToWear_7 : decode cX3_coatsToWear 7 = .ok (.aload_n 1, 1) := by decide +kernel
theorem dX3_coatsToWear_8 : decode cX3_coatsToWear 8 = .ok (.iload_n 2, 1) := by decide +kernel
theorem dX3_coatsToWear_9 : decode cX3_coatsToWear 9 = .ok (.invokevirtual 99, 3) := by decide +kernel
theorem dX3_coatsToWear_12 : decode cX3_coatsToWear 12 = .ok (.istore 5, 2) := by decide +kernel
theorem dX3_coatsToWear_14 : decode cX3_coatsToWear 14 = .ok (.aload 4, 2) := by decide +kernel
theorem dX3_coatsToWear_16 : decode cX3_coatsToWear 16 = .ok (.getfield 103, 3) := by decide +kernel
theorem dX3_coatsToWear_19 : decode cX3_coatsToWear 19 = .ok (.iload_n 2, 1) := by decide +kernel
theorem dX3_coatsToWear_20 : decode cX3_coatsToWear 20 = .ok (.iconst 2, 1) := by decide +kernel
theorem dX3_coatsToWear_21 : decode cX3_coatsToWear 21 = .ok (.invokevirtual 85, 3) := by decide +kernel
theorem dX3_coatsToWear_24 : decode cX3_coatsToWear 24 = .ok (.aload_n 1, 1) := by decide +kernel
theorem dX3_coatsToWear_25 : decode cX3_coatsToWear 25 = .ok (.iload_n 2, 1) := by decide +kernel
theorem dX3_coatsToWear_26 : decode cX3_coatsToWear 26 = .ok (.invokevirtual 106, 3) := by decide +kernel
theorem dX3_coatsToWear_29 : decode cX3_coatsToWear 29 = .ok (.isub, 1) := by decide +kernel
theorem dX3_coatsToWear_30 : decode cX3_coatsToWear 30 = .ok (.iconst 1, 1) := by decide +kernel
theorem dX3_coatsToWear_31 : decode cX3_coatsToWear 31 = .ok (.iadd, 1) := by decide +kernel
theorem dX3_coatsToWear_32 : decode cX3_coatsToWear 32 = .ok (.istore 6, 2) := by decide +kernel
theorem dX3_coatsToWear_34 : decode cX3_coatsToWear 34 = .ok (.iconst (-1), 1) := by decide +kernel
theorem dX3_coatsToWear_35 : decode cX3_coatsToWear 35 = .ok (.istore 7, 2) := by decide +kernel
theorem dX3_coatsToWear_37 : decode cX3_coatsToWear 37 = .ok (.iconst 0, 1) := by decide +kernel
theorem dX3_coatsToWear_38 : decode cX3_coatsToWear 38 = .ok (.istore 8, 2) := by decide +kernel
theorem dX3_coatsToWear_40 : decode cX3_coatsToWear 40 = .ok (.iload 8, 2) := by decide +kernel
theorem dX3_coatsToWear_42 : decode cX3_coatsToWear 42 = .ok (.sipush 4096, 3) := by decide +kernel
theorem dX3_coatsToWear_45 : decode cX3_coatsToWear 45 = .ok (.if_icmp .ge 60, 3) := by decide +kernel
theorem dX3_coatsToWear_48 : decode cX3_coatsToWear 48 = .ok (.iload 8, 2) := by decide +kernel
theorem dX3_coatsToWear_50 : decode cX3_coatsToWear 50 = .ok (.iload 5, 2) := by decide +kernel
theorem dX3_coatsToWear_52 : decode cX3_coatsToWear 52 = .ok (.iconst (-1), 1) := by decide +kernel
theorem dX3_coatsToWear_53 : decode cX3_coatsToWear 53 = .ok (.ixor, 1) := by decide +kernel
theorem dX3_coatsToWear_54 : decode cX3_coatsToWear 54 = .ok (.iand, 1) := by decide +kernel
theorem dX3_coatsToWear_55 : decode cX3_coatsToWear 55 = .ok (.ifCond .ne 44, 3) := by decide +kernel
theorem dX3_coatsToWear_58 : decode cX3_coatsToWear 58 = .ok (.aload 4, 2) := by decide +kernel
theorem dX3_coatsToWear_60 : decode cX3_coatsToWear 60 = .ok (.iload 8, 2) := by decide +kernel
theorem dX3_coatsToWear_62 : decode cX3_coatsToWear 62 = .ok (.bipush 6, 2) := by decide +kernel
theorem dX3_coatsToWear_64 : decode cX3_coatsToWear 64 = .ok (.invokevirtual 109, 3) := by decide +kernel
theorem dX3_coatsToWear_67 : decode cX3_coatsToWear 67 = .ok (.iload 6, 2) := by decide +kernel
theorem dX3_coatsToWear_69 : decode cX3_coatsToWear 69 = .ok (.if_icmp .ge 30, 3) := by decide +kernel
theorem dX3_coatsToWear_72 : decode cX3_coatsToWear 72 = .ok (.aload 4, 2) := by decide +kernel
theorem dX3_coatsToWear_74 : decode cX3_coatsToWear 74 = .ok (.iload 8, 2) := by decide +kernel
theorem dX3_coatsToWear_76 : decode cX3_coatsToWear 76 = .ok (.iconst 1, 1) := by decide +kernel
theorem dX3_coatsToWear_77 : decode cX3_coatsToWear 77 = .ok (.invokevirtual 109, 3) := by decide +kernel
theorem dX3_coatsToWear_80 : decode cX3_coatsToWear 80 = .ok (.iload_n 3, 1) := by decide +kernel
theorem dX3_coatsToWear_81 : decode cX3_coatsToWear 81 = .ok (.if_icmp .lt 18, 3) := by decide +kernel
theorem dX3_coatsToWear_84 : decode cX3_coatsToWear 84 = .ok (.iload 8, 2) := by decide +kernel
theorem dX3_coatsToWear_86 : decode cX3_coatsToWear 86 = .ok (.istore 7, 2) := by decide +kernel
theorem dX3_coatsToWear_88 : decode cX3_coatsToWear 88 = .ok (.aload 4, 2) := by decide +kernel
theorem dX3_coatsToWear_90 : decode cX3_coatsToWear 90 = .ok (.iload 8, 2) := by decide +kernel
theorem dX3_coatsToWear_92 : decode cX3_coatsToWear 92 = .ok (.bipush 6, 2) := by decide +kernel
theorem dX3_coatsToWear_94 : decode cX3_coatsToWear 94 = .ok (.invokevirtual 109, 3) := by decide +kernel
theorem dX3_coatsToWear_97 : decode cX3_coatsToWear 97 = .ok (.istore 6, 2) := by decide +kernel
theorem dX3_coatsToWear_99 : decode cX3_coatsToWear 99 = .ok (.iinc 8 1, 3) := by decide +kernel
theorem dX3_coatsToWear_102 : decode cX3_coatsToWear 102 = .ok (.goto (-62), 3) := by decide +kernel
theorem dX3_coatsToWear_105 : decode cX3_coatsToWear 105 = .ok (.iload 7, 2) := by decide +kernel
theorem dX3_coatsToWear_107 : decode cX3_coatsToWear 107 = .ok (.ireturn, 1) := by decide +kernel
set_option maxRecDepth 20000 in
theorem ggX3_coatsOf_X8_at_ : GoodIn wsX3_coatsOf wsX8_at_ := goodIn_r _ [7, 8, 9, 45, 46] rfl (by decide +kernel)
set_option maxRecDepth 20000 in
theorem gX3_coatsOf_X8_at_ : GoodIn wsX3_coatsOf (wsV RX3 85 RX8 yX8_at_ wsX8_at_) := goodIn_app (goodIn_of _ (by decide +kernel)) ggX3_coatsOf_X8_at_
set_option maxRecDepth 20000 in
theorem ggX3_coatsOf_X7_thingsAt : GoodIn wsX3_coatsOf wsX7_thingsAt := goodIn_r _ [14, 15, 16, 17, 18, 19, 20, 6, 21, 9, 30, 31, 32, 33, 34, 35, 36, 37, 38, 39, 40, 41, 42, 43, 44, 45, 46] rfl (by decide +kernel)
set_option maxRecDepth 20000 in
theorem gX3_coatsOf_X7_thingsAt : GoodIn wsX3_coatsOf (wsV RX3 56 RX7 yX7_thingsAt wsX7_thingsAt) := goodIn_app (goodIn_of _ (by decide +kernel)) ggX3_coatsOf_X7_thingsAt
set_option maxRecDepth 20000 in
theorem ggX3_coatsOf_X0_ofKind : GoodIn wsX3_coatsOf wsX0_ofKind := goodIn_r _ [26, 27, 28, 29, 4, 5, 6, 7, 8, 9, 33, 34, 35, 36, 37, 38, 39, 40, 41, 42, 43, 44, 45, 46] rfl (by decide +kernel)
set_option maxRecDepth 20000 in
theorem gX3_coatsOf_X0_ofKind : GoodIn wsX3_coatsOf (wsV RX3 118 RX0 yX0_ofKind wsX0_ofKind) := goodIn_app (goodIn_of _ (by decide +kernel)) ggX3_coatsOf_X0_ofKind
theorem dX3_coatsOf_0 : decode cX3_coatsOf 0 = .ok (.iconst 0, 1) := by decide +kernel
theorem dX3_coatsOf_1 : decode cX3_coatsOf 1 = .ok (.istore_n 3, 1) := by decide +kernel
theorem dX3_coatsOf_2 : decode cX3_coatsOf 2 = .ok (.iconst 0, 1) := by decide +kernel
theorem dX3_coatsOf_3 : decode cX3_coatsOf 3 = .ok (.istore 4, 2) := by decide +kernel
theorem dX3_coatsOf_5 : decode cX3_coatsOf 5 = .ok (.iload 4, 2) := by decide +kernel
theorem dX3_coatsOf_7 : decode cX3_coatsOf 7 = .ok (.aload_n 1, 1) := by decide +kernel
theorem dX3_coatsOf_8 : decode cX3_coatsOf 8 = .ok (.getfield 46, 3) := by decide +kernel
theorem dX3_coatsOf_11 : decode cX3_coatsOf 11 = .ok (.getfield 112, 3) := by decide +kernel
theorem dX3_coatsOf_14 : decode cX3_coatsOf 14 = .ok (.if_icmp .ge 35, 3) := by decide +kernel
theorem dX3_coatsOf_17 : decode cX3_coatsOf 17 = .ok (.aload_n 1, 1) := by decide +kernel
theorem dX3_coatsOf_18 : decode cX3_coatsOf 18 = .ok (.getfield 46, 3) := by decide +kernel
theorem dX3_coatsOf_21 : decode cX3_coatsOf 21 = .ok (.getfield 115, 3) := by decide +kernel
theorem dX3_coatsOf_24 : decode cX3_coatsOf 24 = .ok (.iload 4, 2) := by decide +kernel
theorem dX3_coatsOf_26 : decode cX3_coatsOf 26 = .ok (.iconst 0, 1) := by decide +kernel
theorem dX3_coatsOf_27 : decode cX3_coatsOf 27 = .ok (.invokevirtual 85, 3) := by decide +kernel
theorem dX3_coatsOf_30 : decode cX3_coatsOf 30 = .ok (.iload_n 2, 1) := by decide +kernel
theorem dX3_coatsOf_31 : decode cX3_coatsOf 31 = .ok (.if_icmp .ne 12, 3) := by decide +kernel
theorem dX3_coatsOf_34 : decode cX3_coatsOf 34 = .ok (.iload_n 3, 1) := by decide +kernel
theorem dX3_coatsOf_35 : decode cX3_coatsOf 35 = .ok (.aload_n 1, 1) := by decide +kernel
theorem dX3_coatsOf_36 : decode cX3_coatsOf 36 = .ok (.iload 4, 2) := by decide +kernel
theorem dX3_coatsOf_38 : decode cX3_coatsOf 38 = .ok (.invokevirtual 56, 3) := by decide +kernel
theorem dX3_coatsOf_41 : decode cX3_coatsOf 41 = .ok (.ior, 1) := by decide +kernel
theorem dX3_coatsOf_42 : decode cX3_coatsOf 42 = .ok (.istore_n 3, 1) := by decide +kernel
theorem dX3_coatsOf_43 : decode cX3_coatsOf 43 = .ok (.iinc 4 1, 3) := by decide +kernel
theorem dX3_coatsOf_46 : decode cX3_coatsOf 46 = .ok (.goto (-41), 3) := by decide +kernel
theorem dX3_coatsOf_49 : decode cX3_coatsOf 49 = .ok (.iload_n 3, 1) := by decide +kernel
theorem dX3_coatsOf_50 : decode cX3_coatsOf 50 = .ok (.aload_n 1, 1) := by decide +kernel
theorem dX3_coatsOf_51 : decode cX3_coatsOf 51 = .ok (.getfield 46, 3) := by decide +kernel
theorem dX3_coatsOf_54 : decode cX3_coatsOf 54 = .ok (.iconst 1, 1) := by decide +kernel
theorem dX3_coatsOf_55 : decode cX3_coatsOf 55 = .ok (.invokevirtual 118, 3) := by decide +kernel
theorem dX3_coatsOf_58 : decode cX3_coatsOf 58 = .ok (.iand, 1) := by decide +kernel
theorem dX3_coatsOf_59 : decode cX3_coatsOf 59 = .ok (.ireturn, 1) := by decide +kernel
set_option maxRecDepth 20000 in
theorem ggX3_leastShare_X7_weightIn : GoodIn wsX3_leastShare wsX7_weightIn := goodIn_r _ [11, 12, 13, 14, 15, 10, 16, 17, 18, 19, 20, 21, 22, 23, 24, 25, 26, 27, 28, 29, 30, 31, 32, 33, 34, 35, 36, 66, 67, 68, 69, 70, 71, 72, 73, 74, 75, 76, 77, 78, 79, 80, 90, 91] rfl (by decide +kernel)
set_option maxRecDepth 20000 in
theorem gX3_leastShare_X7_weightIn : GoodIn wsX3_leastShare (wsV RX3 124 RX7 yX7_weightIn wsX7_weightIn) := goodIn_app (goodIn_of _ (by decide +kernel)) ggX3_leastShare_X7_weightIn
set_option maxRecDepth 20000 in
theorem ggX3_leastShare_X8_set : GoodIn wsX3_leastShare wsX8_set := goodIn_r _ [40, 24, 90, 91] rfl (by decide +kernel)
set_option maxRecDepth 20000 in
theorem gX3_leastShare_X8_set : GoodIn wsX3_leastShare (wsV RX3 91 RX8 yX8_set wsX8_set) := goodIn_app (goodIn_of _ (by decide +kernel)) ggX3_leastShare_X8_set
set_option maxRecDepth 20000 in
theorem ggX3_leastShare_X8_fill : GoodIn wsX3_leastShare wsX8_fill := goodIn_r _ [44, 24, 90, 91] rfl (by decide +kernel)
set_option maxRecDepth 20000 in
theorem gX3_leastShare_X8_fill : GoodIn wsX3_leastShare (wsV RX3 127 RX8 yX8_fill wsX8_fill) := goodIn_app (goodIn_of _ (by decide +kernel)) ggX3_leastShare_X8_fill
set_option maxRecDepth 20000 in
theorem ggX3_leastShare_X3_greatestShare : GoodIn wsX3_leastShare wsX3_greatestShare := goodIn_r _ [49, 1, 2, 4, 3, 50, 51, 52, 53, 54, 55, 20, 21, 22, 23, 24, 56, 33, 34, 35, 36, 69, 70, 71, 72, 73, 74, 75, 76, 77, 78, 79, 80, 81, 82, 83, 84, 85, 86, 87, 88, 89, 90, 91] rfl (by decide +kernel)
set_option maxRecDepth 20000 in
theorem gX3_leastShare_X3_greatestShare : GoodIn wsX3_leastShare (wsV RX3 130 RX3 yX3_greatestShare wsX3_greatestShare) := goodIn_app (goodIn_of _ (by decide +kernel)) ggX3_leastShare_X3_greatestShare
set_option maxRecDepth 20000 in
theorem ggX3_leastShare_X8_become : GoodIn wsX3_leastShare wsX8_become := goodIn_r _ [60, 24, 61, 20, 21, 22, 23, 90, 91] rfl (by decide +kernel)
set_option maxRecDepth 20000 in
theorem gX3_leastShare_X8_become : GoodIn wsX3_leastShare (wsV RX3 134 RX8 yX8_become wsX8_become) := goodIn_app (goodIn_of _ (by decide +kernel)) ggX3_leastShare_X8_become
set_option maxRecDepth 20000 in
theorem ggX3_leastShare_X3_goToNextRow : GoodIn wsX3_leastShare wsX3_goToNextRow := goodIn_r _ [65, 2, 4, 1, 55, 20, 21, 22, 23, 24, 37, 38, 39, 40, 69, 70, 71, 72, 73, 74, 75, 76, 77, 78, 79, 80, 81, 82, 83, 84, 85, 86, 87, 88, 89, 90, 91] rfl (by decide +kernel)
set_option maxRecDepth 20000 in
theorem gX3_leastShare_X3_goToNextRow : GoodIn wsX3_leastShare (wsV RX3 138 RX3 yX3_goToNextRow wsX3_goToNextRow) := goodIn_app (goodIn_of _ (by decide +kernel)) ggX3_leastShare_X3_goToNextRow
theorem dX3_leastShare_0 : decode cX3_leastShare 0 = .ok (.aload_n 1, 1) := by decide +kernel
theorem dX3_leastShare_1 : decode cX3_leastShare 1 = .ok (.getfield 46, 3) := by decide +kernel
theorem dX3_leastShare_4 : decode cX3_leastShare 4 = .ok (.astore_n 2, 1) := by decide +kernel
theorem dX3_leastShare_5 : decode cX3_leastShare 5 = .ok (.aload_n 2, 1) := by decide +kernel
theorem dX3_leastShare_6 : decode cX3_leastShare 6 = .ok (.getfield 121, 3) := by decide +kernel
theorem dX3_leastShare_9 : decode cX3_leastShare 9 = .ok (.ifCond .ne 5, 3) := by decide +kernel
theorem dX3_leastShare_12 : decode cX3_leastShare 12 = .ok (.iconst (-1), 1) := by decide +kernel
theorem dX3_leastShare_13 : decode cX3_leastShare 13 = .ok (.ireturn, 1) := by decide +kernel
theorem dX3_leastShare_14 : decode cX3_leastShare 14 = .ok (.iconst 1, 1) := by decide +kernel
theorem dX3_leastShare_15 : decode cX3_leastShare 15 = .ok (.istore_n 3, 1) := by decide +kernel
theorem dX3_leastShare_16 : decode cX3_leastShare 16 = .ok (.iconst 0, 1) := by decide +kernel
theorem dX3_leastShare_17 : decode cX3_leastShare 17 = .ok (.istore 4, 2) := by decide +kernel
theorem dX3_leastShare_19 : decode cX3_leastShare 19 = .ok (.iload 4, 2) := by decide +kernel
theorem dX3_leastShare_21 : decode cX3_leastShare 21 = .ok (.aload_n 2, 1) := by decide +kernel
theorem dX3_leastShare_22 : decode cX3_leastShare 22 = .ok (.getfield 112, 3) := by decide +kernel
theorem dX3_leastShare_25 : decode cX3_leastShare 25 = .ok (.if_icmp .ge 31, 3) := by decide +kernel
theorem dX3_leastShare_28 : decode cX3_leastShare 28 = .ok (.iload_n 3, 1) := by decide +kernel
theorem dX3_leastShare_29 : decode cX3_leastShare 29 = .ok (.aload_n 2, 1) := by decide +kernel
theorem dX3_leastShare_30 : decode cX3_leastShare 30 = .ok (.getfield 121, 3) := by decide +kernel
theorem dX3_leastShare_33 : decode cX3_leastShare 33 = .ok (.imul, 1) := by decide +kernel
theorem dX3_leastShare_34 : decode cX3_leastShare 34 = .ok (.istore_n 3, 1) := by decide +kernel
theorem dX3_leastShare_35 : decode cX3_leastShare 35 = .ok (.aload_n 0, 1) := by decide +kernel
theorem dX3_leastShare_36 : decode cX3_leastShare 36 = .ok (.getfield 32, 3) := by decide +kernel
theorem dX3_leastShare_39 : decode cX3_leastShare 39 = .ok (.iload 4, 2) := by decide +kernel
theorem dX3_leastShare_41 : decode cX3_leastShare 41 = .ok (.aload_n 1, 1) := by decide +kernel
theorem dX3_leastShare_42 : decode cX3_leastShare 42 = .ok (.iload 4, 2) := by decide +kernel
theorem dX3_leastShare_44 : decode cX3_leastShare 44 = .ok (.invokevirtual 124, 3) := by decide +kernel
theorem dX3_leastShare_47 : decode cX3_leastShare 47 = .ok (.invokevirtual 91, 3) := by decide +kernel
theorem dX3_leastShare_50 : decode cX3_leastShare 50 = .ok (.iinc 4 1, 3) := by decide +kernel
theorem dX3_leastShare_53 : decode cX3_leastShare 53 = .ok (.goto (-34), 3) := by decide +kernel
theorem dX3_leastShare_56 : decode cX3_leastShare 56 = .ok (.iconst (-1), 1) := by decide +kernel
theorem dX3_leastShare_57 : decode cX3_leastShare 57 = .ok (.istore 4, 2) := by decide +kernel
theorem dX3_leastShare_59 : decode cX3_leastShare 59 = .ok (.aload_n 0, 1) := by decide +kernel
theorem dX3_leastShare_60 : decode cX3_leastShare 60 = .ok (.getfield 29, 3) := by decide +kernel
theorem dX3_leastShare_63 : decode cX3_leastShare 63 = .ok (.iconst 0, 1) := by decide +kernel
theorem dX3_leastShare_64 : decode cX3_leastShare 64 = .ok (.invokevirtual 127, 3) := by decide +kernel
theorem dX3_leastShare_67 : decode cX3_leastShare 67 = .ok (.iconst 0, 1) := by decide +kernel
theorem dX3_leastShare_68 : decode cX3_leastShare 68 = .ok (.istore 5, 2) := by decide +kernel
theorem dX3_leastShare_70 : decode cX3_leastShare 70 = .ok (.iload 5, 2) := by decide +kernel
theorem dX3_leastShare_72 : decode cX3_leastShare 72 = .ok (.iload_n 3, 1) := by decide +kernel
theorem dX3_leastShare_73 : decode cX3_leastShare 73 = .ok (.if_icmp .ge 49, 3) := by decide +kernel
theorem dX3_leastShare_76 : decode cX3_leastShare 76 = .ok (.aload_n 0, 1) := by decide +kernel
theorem dX3_leastShare_77 : decode cX3_leastShare 77 = .ok (.aload_n 2, 1) := by decide +kernel
theorem dX3_leastShare_78 : decode cX3_leastShare 78 = .ok (.invokevirtual 130, 3) := by decide +kernel
theorem dX3_leastShare_81 : decode cX3_leastShare 81 = .ok (.istore 6, 2) := by decide +kernel
theorem dX3_leastShare_83 : decode cX3_leastShare 83 = .ok (.iload 4, 2) := by decide +kernel
theorem dX3_leastShare_85 : decode cX3_leastShare 85 = .ok (.iconst (-1), 1) := by decide +kernel
theorem dX3_leastShare_86 : decode cX3_leastShare 86 = .ok (.if_icmp .eq 10, 3) := by decide +kernel
theorem dX3_leastShare_89 : decode cX3_leastShare 89 = .ok (.iload 6, 2) := by decide +kernel
theorem dX3_leastShare_91 : decode cX3_leastShare 91 = .ok (.iload 4, 2) := by decide +kernel
theorem dX3_leastShare_93 : decode cX3_leastShare 93 = .ok (.if_icmp .ge 18, 3) := by decide +kernel
theorem dX3_leastShare_96 : decode cX3_leastShare 96 = .ok (.iload 6, 2) := by decide +kernel
theorem dX3_leastShare_98 : decode cX3_leastShare 98 = .ok (.istore 4, 2) := by decide +kernel
theorem dX3_leastShare_100 : decode cX3_leastShare 100 = .ok (.aload_n 0, 1) := by decide +kernel
theorem dX3_leastShare_101 : decode cX3_leastShare 101 = .ok (.getfield 26, 3) := by decide +kernel
theorem dX3_leastShare_104 : decode cX3_leastShare 104 = .ok (.aload_n 0, 1) := by decide +kernel
theorem dX3_leastShare_105 : decode cX3_leastShare 105 = .ok (.getfield 29, 3) := by decide +kernel
theorem dX3_leastShare_108 : decode cX3_leastShare 108 = .ok (.invokevirtual 134, 3) := by decide +kernel
theorem dX3_leastShare_111 : decode cX3_leastShare 111 = .ok (.aload_n 0, 1) := by decide +kernel
theorem dX3_leastShare_112 : decode cX3_leastShare 112 = .ok (.aload_n 2, 1) := by decide +kernel
theorem dX3_leastShare_113 : decode cX3_leastShare 113 = .ok (.invokevirtual 138, 3) := by decide +kernel
theorem dX3_leastShare_116 : decode cX3_leastShare 116 = .ok (.iinc 5 1, 3) := by decide +kernel
theorem dX3_leastShare_119 : decode cX3_leastShare 119 = .ok (.goto (-49), 3) := by decide +kernel
theorem dX3_leastShare_122 : decode cX3_leastShare 122 = .ok (.aload_n 0, 1) := by decide +kernel
theorem dX3_leastShare_123 : decode cX3_leastShare 123 = .ok (.iconst 1, 1) := by decide +kernel
theorem dX3_leastShare_124 : decode cX3_leastShare 124 = .ok (.putfield 39, 3) := by decide +kernel
theorem dX3_leastShare_127 : decode cX3_leastShare 127 = .ok (.iload 4, 2) := by decide +kernel
theorem dX3_leastShare_129 : decode cX3_leastShare 129 = .ok (.ireturn, 1) := by decide +kernel
set_option maxRecDepth 20000 in
theorem ggX3_goToNextRow_X8_at : GoodIn wsX3_goToNextRow wsX8_at := goodIn_r _ [8, 9, 35, 36] rfl (by decide +kernel)
set_option maxRecDepth 20000 in
theorem gX3_goToNextRow_X8_at : GoodIn wsX3_goToNextRow (wsV RX3 94 RX8 yX8_at wsX8_at) := goodIn_app (goodIn_of _ (by decide +kernel)) ggX3_goToNextRow_X8_at
set_option maxRecDepth 20000 in
theorem ggX3_goToNextRow_X8_set : GoodIn wsX3_goToNextRow wsX8_set := goodIn_r _ [13, 9, 35, 36] rfl (by decide +kernel)
set_option maxRecDepth 20000 in
theorem gX3_goToNextRow_X8_set : GoodIn wsX3_goToNextRow (wsV RX3 91 RX8 yX8_set wsX8_set) := goodIn_app (goodIn_of _ (by decide +kernel)) ggX3_goToNextRow_X8_set
theorem dX3_goToNextRow_0 : decode cX3_goToNextRow 0 = .ok (.iconst 1, 1) := by decide +kernel
theorem dX3_goToNextRow_1 : decode cX3_goToNextRow 1 = .ok (.istore_n 2, 1) := by decide +kernel
theorem dX3_goToNextRow_2 : decode cX3_goToNextRow 2 = .ok (.aload_n 1, 1) := by decide +kernel
theorem dX3_goToNextRow_3 : decode cX3_goToNextRow 3 = .ok (.getfield 112, 3) := by decide +kernel
theorem dX3_goToNextRow_6 : decode cX3_goToNextRow 6 = .ok (.iconst 1, 1) := by decide +kernel
theorem dX3_goToNextRow_7 : decode cX3_goToNextRow 7 = .ok (.isub, 1) := by decide +kernel
theorem dX3_goToNextRow_8 : decode cX3_goToNextRow 8 = .ok (.istore_n 3, 1) := by decide +kernel
theorem dX3_goToNextRow_9 : decode cX3_goToNextRow 9 = .ok (.iload_n 3, 1) := by decide +kernel
theorem dX3_goToNextRow_10 : decode cX3_goToNextRow 10 = .ok (.ifCond .lt 58, 3) := by decide +kernel
theorem dX3_goToNextRow_13 : decode cX3_goToNextRow 13 = .ok (.iload_n 2, 1) := by decide +kernel
theorem dX3_goToNextRow_14 : decode cX3_goToNextRow 14 = .ok (.ifCond .eq 54, 3) := by decide +kernel
theorem dX3_goToNextRow_17 : decode cX3_goToNextRow 17 = .ok (.aload_n 0, 1) := by decide +kernel
theorem dX3_goToNextRow_18 : decode cX3_goToNextRow 18 = .ok (.getfield 29, 3) := by decide +kernel
theorem dX3_goToNextRow_21 : decode cX3_goToNextRow 21 = .ok (.iload_n 3, 1) := by decide +kernel
theorem dX3_goToNextRow_22 : decode cX3_goToNextRow 22 = .ok (.invokevirtual 94, 3) := by decide +kernel
theorem dX3_goToNextRow_25 : decode cX3_goToNextRow 25 = .ok (.iconst 1, 1) := by decide +kernel
theorem dX3_goToNextRow_26 : decode cX3_goToNextRow 26 = .ok (.iadd, 1) := by decide +kernel
theorem dX3_goToNextRow_27 : decode cX3_goToNextRow 27 = .ok (.istore 4, 2) := by decide +kernel
theorem dX3_goToNextRow_29 : decode cX3_goToNextRow 29 = .ok (.iload 4, 2) := by decide +kernel
theorem dX3_goToNextRow_31 : decode cX3_goToNextRow 31 = .ok (.aload_n 1, 1) := by decide +kernel
theorem dX3_goToNextRow_32 : decode cX3_goToNextRow 32 = .ok (.getfield 121, 3) := by decide +kernel
theorem dX3_goToNextRow_35 : decode cX3_goToNextRow 35 = .ok (.if_icmp .ne 7, 3) := by decide +kernel
theorem dX3_goToNextRow_38 : decode cX3_goToNextRow 38 = .ok (.iconst 1, 1) := by decide +kernel
theorem dX3_goToNextRow_39 : decode cX3_goToNextRow 39 = .ok (.goto 4, 3) := by decide +kernel
theorem dX3_goToNextRow_42 : decode cX3_goToNextRow 42 = .ok (.iconst 0, 1) := by decide +kernel
theorem dX3_goToNextRow_43 : decode cX3_goToNextRow 43 = .ok (.istore_n 2, 1) := by decide +kernel
theorem dX3_goToNextRow_44 : decode cX3_goToNextRow 44 = .ok (.aload_n 0, 1) := by decide +kernel
theorem dX3_goToNextRow_45 : decode cX3_goToNextRow 45 = .ok (.getfield 29, 3) := by decide +kernel
theorem dX3_goToNextRow_48 : decode cX3_goToNextRow 48 = .ok (.iload_n 3, 1) := by decide +kernel
theorem dX3_goToNextRow_49 : decode cX3_goToNextRow 49 = .ok (.iload_n 2, 1) := by decide +kernel
theorem dX3_goToNextRow_50 : decode cX3_goToNextRow 50 = .ok (.ifCond .eq 7, 3) := by decide +kernel
theorem dX3_goToNextRow_53 : decode cX3_goToNextRow 53 = .ok (.iconst 0, 1) := by decide +kernel
theorem dX3_goToNextRow_54 : decode cX3_goToNextRow 54 = .ok (.goto 5, 3) := by decide +kernel
theorem dX3_goToNextRow_57 : decode cX3_goToNextRow 57 = .ok (.iload 4, 2) := by decide +kernel
theorem dX3_goToNextRow_59 : decode cX3_goToNextRow 59 = .ok (.invokevirtual 91, 3) := by decide +kernel
theorem dX3_goToNextRow_62 : decode cX3_goToNextRow 62 = .ok (.iinc 3 (-1), 3) := by decide +kernel
theorem dX3_goToNextRow_65 : decode cX3_goToNextRow 65 = .ok (.goto (-56), 3) := by decide +kernel
theorem dX3_goToNextRow_68 : decode cX3_goToNextRow 68 = .ok (.return_, 1) := by decide +kernel
set_option maxRecDepth 20000 in
theorem ggX3_greatestShare_X8_at : GoodIn wsX3_greatestShare wsX8_at := goodIn_r _ [14, 15, 42, 43] rfl (by decide +kernel)
set_option maxRecDepth 20000 in
theorem gX3_greatestShare_X8_at : GoodIn wsX3_greatestShare (wsV RX3 94 RX8 yX8_at wsX8_at) := goodIn_app (goodIn_of _ (by decide +kernel)) ggX3_greatestShare_X8_at
set_option maxRecDepth 20000 in
theorem ggX3_greatestShare_X8_at_ : GoodIn wsX3_greatestShare wsX8_at_ := goodIn_r _ [19, 20, 15, 42, 43] rfl (by decide +kernel)
set_option maxRecDepth 20000 in
theorem gX3_greatestShare_X8_at_ : GoodIn wsX3_greatestShare (wsV RX3 85 RX8 yX8_at_ wsX8_at_) := goodIn_app (goodIn_of _ (by decide +kernel)) ggX3_greatestShare_X8_at_
theorem dX3_greatestShare_0 : decode cX3_greatestShare 0 = .ok (.iconst 0, 1) := by decide +kernel
theorem dX3_greatestShare_1 : decode cX3_greatestShare 1 = .ok (.istore_n 2, 1) := by decide +kernel
theorem dX3_greatestShare_2 : decode cX3_greatestShare 2 = .ok (.iconst 0, 1) := by decide +kernel
theorem dX3_greatestShare_3 : decode cX3_greatestShare 3 = .ok (.istore_n 3, 1) := by decide +kernel
theorem dX3_greatestShare_4 : decode cX3_greatestShare 4 = .ok (.iload_n 3, 1) := by decide +kernel
theorem dX3_greatestShare_5 : decode cX3_greatestShare 5 = .ok (.aload_n 1, 1) := by decide +kernel
theorem dX3_greatestShare_6 : decode cX3_greatestShare 6 = .ok (.getfield 121, 3) := by decide +kernel
theorem dX3_greatestShare_9 : decode cX3_greatestShare 9 = .ok (.if_icmp .ge 95, 3) := by decide +kernel
theorem dX3_greatestShare_12 : decode cX3_greatestShare 12 = .ok (.iconst 0, 1) := by decide +kernel
theorem dX3_greatestShare_13 : decode cX3_greatestShare 13 = .ok (.istore 4, 2) := by decide +kernel
theorem dX3_greatestShare_15 : decode cX3_greatestShare 15 = .ok (.iconst 0, 1) := by decide +kernel
theorem dX3_greatestShare_16 : decode cX3_greatestShare 16 = .ok (.istore 5, 2) := by decide +kernel
theorem dX3_greatestShare_18 : decode cX3_greatestShare 18 = .ok (.iload 5, 2) := by decide +kernel
theorem dX3_greatestShare_20 : decode cX3_greatestShare 20 = .ok (.aload_n 1, 1) := by decide +kernel
theorem dX3_greatestShare_21 : decode cX3_greatestShare 21 = .ok (.getfield 112, 3) := by decide +kernel
theorem dX3_greatestShare_24 : decode cX3_greatestShare 24 = .ok (.if_icmp .ge 40, 3) := by decide +kernel
theorem dX3_greatestShare_27 : decode cX3_greatestShare 27 = .ok (.iload 4, 2) := by decide +kernel
theorem dX3_greatestShare_29 : decode cX3_greatestShare 29 = .ok (.aload_n 0, 1) := by decide +kernel
theorem dX3_greatestShare_30 : decode cX3_greatestShare 30 = .ok (.getfield 29, 3) := by decide +kernel
theorem dX3_greatestShare_33 : decode cX3_greatestShare 33 = .ok (.iload 5, 2) := by decide +kernel
theorem dX3_greatestShare_35 : decode cX3_greatestShare 35 = .ok (.invokevirtual 94, 3) := by decide +kernel
theorem dX3_greatestShare_38 : decode cX3_greatestShare 38 = .ok (.iload_n 3, 1) := by decide +kernel
theorem dX3_greatestShare_39 : decode cX3_greatestShare 39 = .ok (.if_icmp .ne 15, 3) := by decide +kernel
theorem dX3_greatestShare_42 : decode cX3_greatestShare 42 = .ok (.aload_n 0, 1) := by decide +kernel
theorem dX3_greatestShare_43 : decode cX3_greatestShare 43 = .ok (.getfield 32, 3) := by decide +kernel
theorem dX3_greatestShare_46 : decode cX3_greatestShare 46 = .ok (.iload 5, 2) := by decide +kernel
theorem dX3_greatestShare_48 : decode cX3_greatestShare 48 = .ok (.invokevirtual 94, 3) := by decide +kernel
theorem dX3_greatestShare_51 : decode cX3_greatestShare 51 = .ok (.goto 4, 3) := by decide +kernel
theorem dX3_greatestShare_54 : decode cX3_greatestShare 54 = .ok (.iconst 0, 1) := by decide +kernel
theorem dX3_greatestShare_55 : decode cX3_greatestShare 55 = .ok (.iadd, 1) := by decide +kernel
theorem dX3_greatestShare_56 : decode cX3_greatestShare 56 = .ok (.istore 4, 2) := by decide +kernel
theorem dX3_greatestShare_58 : decode cX3_greatestShare 58 = .ok (.iinc 5 1, 3) := by decide +kernel
theorem dX3_greatestShare_61 : decode cX3_greatestShare 61 = .ok (.goto (-43), 3) := by decide +kernel
theorem dX3_greatestShare_64 : decode cX3_greatestShare 64 = .ok (.aload_n 1, 1) := by decide +kernel
theorem dX3_greatestShare_65 : decode cX3_greatestShare 65 = .ok (.getfield 103, 3) := by decide +kernel
theorem dX3_greatestShare_68 : decode cX3_greatestShare 68 = .ok (.iload_n 3, 1) := by decide +kernel
theorem dX3_greatestShare_69 : decode cX3_greatestShare 69 = .ok (.iconst 0, 1) := by decide +kernel
theorem dX3_greatestShare_70 : decode cX3_greatestShare 70 = .ok (.invokevirtual 85, 3) := by decide +kernel
theorem dX3_greatestShare_73 : decode cX3_greatestShare 73 = .ok (.istore 5, 2) := by decide +kernel
theorem dX3_greatestShare_75 : decode cX3_greatestShare 75 = .ok (.iload_n 2, 1) := by decide +kernel
theorem dX3_greatestShare_76 : decode cX3_greatestShare 76 = .ok (.iload 5, 2) := by decide +kernel
theorem dX3_greatestShare_78 : decode cX3_greatestShare 78 = .ok (.ifCond .le 15, 3) := by decide +kernel
theorem dX3_greatestShare_81 : decode cX3_greatestShare 81 = .ok (.iload 4, 2) := by decide +kernel
theorem dX3_greatestShare_83 : decode cX3_greatestShare 83 = .ok (.sipush 1000, 3) := by decide +kernel
theorem dX3_greatestShare_86 : decode cX3_greatestShare 86 = .ok (.imul, 1) := by decide +kernel
theorem dX3_greatestShare_87 : decode cX3_greatestShare 87 = .ok (.iload 5, 2) := by decide +kernel
theorem dX3_greatestShare_89 : decode cX3_greatestShare 89 = .ok (.idiv, 1) := by decide +kernel
theorem dX3_greatestShare_90 : decode cX3_greatestShare 90 = .ok (.goto 4, 3) := by decide +kernel
theorem dX3_greatestShare_93 : decode cX3_greatestShare 93 = .ok (.iconst 0, 1) := by decide +kernel
theorem dX3_greatestShare_94 : decode cX3_greatestShare 94 = .ok (.invokestatic 141, 3) := by decide +kernel
theorem dX3_greatestShare_97 : decode cX3_greatestShare 97 = .ok (.istore_n 2, 1) := by decide +kernel
theorem dX3_greatestShare_98 : decode cX3_greatestShare 98 = .ok (.iinc 3 1, 3) := by decide +kernel
theorem dX3_greatestShare_101 : decode cX3_greatestShare 101 = .ok (.goto (-97), 3) := by decide +kernel
theorem dX3_greatestShare_104 : decode cX3_greatestShare 104 = .ok (.iload_n 2, 1) := by decide +kernel
theorem dX3_greatestShare_105 : decode cX3_greatestShare 105 = .ok (.ireturn, 1) := by decide +kernel
