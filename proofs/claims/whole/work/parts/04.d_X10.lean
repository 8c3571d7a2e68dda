set_option maxRecDepth 20000 in
theorem ggX10_init_X7_init : GoodIn wsX10_init wsX7_init := goodIn_r _ [10, 11, 2, 3, 12, 13, 14, 15, 16, 17, 18, 19, 20, 21, 22, 23, 24, 25, 26, 27, 40, 41, 28, 29, 30] rfl (by decide +kernel)
set_option maxRecDepth 20000 in
theorem gX10_init_X7_init : GoodIn wsX10_init (wsX7_init) := ggX10_init_X7_init
theorem dX10_init_0 : decode cX10_init 0 = .ok (.aload_n 0, 1) := by decide +kernel
theorem dX10_init_1 : decode cX10_init 1 = .ok (.invokespecial 3, 3) := by decide +kernel
theorem dX10_init_4 : decode cX10_init 4 = .ok (.aload_n 0, 1) := by decide +kernel
theorem dX10_init_5 : decode cX10_init 5 = .ok (.new 9, 3) := by decide +kernel
theorem dX10_init_8 : decode cX10_init 8 = .ok (.dup, 1) := by decide +kernel
theorem dX10_init_9 : decode cX10_init 9 = .ok (.aload_n 1, 1) := by decide +kernel
theorem dX10_init_10 : decode cX10_init 10 = .ok (.invokespecial 11, 3) := by decide +kernel
theorem dX10_init_13 : decode cX10_init 13 = .ok (.putfield 14, 3) := by decide +kernel
theorem dX10_init_16 : decode cX10_init 16 = .ok (.return_, 1) := by decide +kernel
set_option maxRecDepth 20000 in
theorem ggX10_findFits_X7_placeOf : GoodIn wsX10_findFits wsX7_placeOf := goodIn_r _ [10, 11, 12, 13, 14, 15, 16, 17, 112, 113, 114, 127, 128] rfl (by decide +kernel)
set_option maxRecDepth 20000 in
theorem gX10_findFits_X7_placeOf : GoodIn wsX10_findFits (wsV RX10 36 RX7 yX7_placeOf wsX7_placeOf) := goodIn_app (goodIn_of _ (by decide +kernel)) ggX10_findFits_X7_placeOf
set_option maxRecDepth 20000 in
theorem ggX10_findFits_X10_tries : GoodIn wsX10_findFits wsX10_tries := goodIn_r _ [22, 5, 23, 24, 25, 9, 26, 11, 27, 28, 12, 13, 14, 15, 16, 17, 29, 30, 31, 32, 33, 34, 35, 36, 37, 38, 39, 40, 41, 42, 43, 44, 45, 46, 47, 48, 49, 50, 51, 52, 53, 54, 55, 56, 57, 58, 59, 60, 61, 62, 63, 64, 65, 66, 67, 68, 69, 70, 71, 72, 73, 74, 75, 76, 77, 78, 79, 80, 81, 82, 83, 84, 85, 86, 87, 88, 89, 90, 103, 104, 105, 106, 107, 108, 109, 110, 111, 112, 113, 114, 115, 116, 117, 118, 119, 120, 121, 122, 123, 124, 125, 126, 127, 128] rfl (by decide +kernel)
set_option maxRecDepth 20000 in
theorem gX10_findFits_X10_tries : GoodIn wsX10_findFits (wsV RX10 43 RX10 yX10_tries wsX10_tries) := goodIn_app (goodIn_of _ (by decide +kernel)) ggX10_findFits_X10_tries
set_option maxRecDepth 20000 in
theorem ggX10_findFits_X1_agreesWith : GoodIn wsX10_findFits wsX1_agreesWith := goodIn_r _ [95, 96, 97, 98, 38, 39, 15, 40, 41, 17, 99, 100, 101, 9, 102, 27, 49, 50, 51, 52, 53, 11, 12, 13, 14, 16, 54, 55, 56, 32, 57, 58, 34, 37, 129, 130, 131, 132, 133, 127, 128, 112, 113, 114, 115, 116, 117, 118, 119, 120, 121, 122, 123, 124, 125, 126] rfl (by decide +kernel)
set_option maxRecDepth 20000 in
theorem gX10_findFits_X1_agreesWith : GoodIn wsX10_findFits (wsV RX10 47 RX1 yX1_agreesWith wsX1_agreesWith) := goodIn_app (goodIn_of _ (by decide +kernel)) ggX10_findFits_X1_agreesWith
theorem dX10_findFits_0 : decode cX10_findFits 0 = .ok (.aload_n 0, 1) := by decide +kernel
theorem dX10_findFits_1 : decode cX10_findFits 1 = .ok (.iconst 0, 1) := by decide +kernel
theorem dX10_findFits_2 : decode cX10_findFits 2 = .ok (.putfield 20, 3) := by decide +kernel
theorem dX10_findFits_5 : decode cX10_findFits 5 = .ok (.aload_n 0, 1) := by decide +kernel
theorem dX10_findFits_6 : decode cX10_findFits 6 = .ok (.iconst (-1), 1) := by decide +kernel
theorem dX10_findFits_7 : decode cX10_findFits 7 = .ok (.putfield 24, 3) := by decide +kernel
theorem dX10_findFits_10 : decode cX10_findFits 10 = .ok (.iconst 0, 1) := by decide +kernel
theorem dX10_findFits_11 : decode cX10_findFits 11 = .ok (.istore_n 3, 1) := by decide +kernel
theorem dX10_findFits_12 : decode cX10_findFits 12 = .ok (.iload_n 3, 1) := by decide +kernel
theorem dX10_findFits_13 : decode cX10_findFits 13 = .ok (.aload_n 1, 1) := by decide +kernel
theorem dX10_findFits_14 : decode cX10_findFits 14 = .ok (.getfield 27, 3) := by decide +kernel
theorem dX10_findFits_17 : decode cX10_findFits 17 = .ok (.getfield 31, 3) := by decide +kernel
theorem dX10_findFits_20 : decode cX10_findFits 20 = .ok (.if_icmp .ge 114, 3) := by decide +kernel
theorem dX10_findFits_23 : decode cX10_findFits 23 = .ok (.aload_n 1, 1) := by decide +kernel
theorem dX10_findFits_24 : decode cX10_findFits 24 = .ok (.iload_n 3, 1) := by decide +kernel
theorem dX10_findFits_25 : decode cX10_findFits 25 = .ok (.invokevirtual 36, 3) := by decide +kernel
theorem dX10_findFits_28 : decode cX10_findFits 28 = .ok (.aload_n 1, 1) := by decide +kernel
theorem dX10_findFits_29 : decode cX10_findFits 29 = .ok (.getfield 27, 3) := by decide +kernel
theorem dX10_findFits_32 : decode cX10_findFits 32 = .ok (.getfield 40, 3) := by decide +kernel
theorem dX10_findFits_35 : decode cX10_findFits 35 = .ok (.if_icmp .ge 7, 3) := by decide +kernel
theorem dX10_findFits_38 : decode cX10_findFits 38 = .ok (.iconst 1, 1) := by decide +kernel
theorem dX10_findFits_39 : decode cX10_findFits 39 = .ok (.goto 4, 3) := by decide +kernel
theorem dX10_findFits_42 : decode cX10_findFits 42 = .ok (.iconst 0, 1) := by decide +kernel
theorem dX10_findFits_43 : decode cX10_findFits 43 = .ok (.istore 4, 2) := by decide +kernel
theorem dX10_findFits_45 : decode cX10_findFits 45 = .ok (.iconst 0, 1) := by decide +kernel
theorem dX10_findFits_46 : decode cX10_findFits 46 = .ok (.istore 5, 2) := by decide +kernel
theorem dX10_findFits_48 : decode cX10_findFits 48 = .ok (.iload 5, 2) := by decide +kernel
theorem dX10_findFits_50 : decode cX10_findFits 50 = .ok (.aload_n 1, 1) := by decide +kernel
theorem dX10_findFits_51 : decode cX10_findFits 51 = .ok (.getfield 27, 3) := by decide +kernel
theorem dX10_findFits_54 : decode cX10_findFits 54 = .ok (.getfield 40, 3) := by decide +kernel
theorem dX10_findFits_57 : decode cX10_findFits 57 = .ok (.if_icmp .ge 71, 3) := by decide +kernel
theorem dX10_findFits_60 : decode cX10_findFits 60 = .ok (.iload 4, 2) := by decide +kernel
theorem dX10_findFits_62 : decode cX10_findFits 62 = .ok (.ifCond .eq 66, 3) := by decide +kernel
theorem dX10_findFits_65 : decode cX10_findFits 65 = .ok (.aload_n 0, 1) := by decide +kernel
theorem dX10_findFits_66 : decode cX10_findFits 66 = .ok (.aload_n 1, 1) := by decide +kernel
theorem dX10_findFits_67 : decode cX10_findFits 67 = .ok (.iload_n 3, 1) := by decide +kernel
theorem dX10_findFits_68 : decode cX10_findFits 68 = .ok (.iload 5, 2) := by decide +kernel
theorem dX10_findFits_70 : decode cX10_findFits 70 = .ok (.invokevirtual 43, 3) := by decide +kernel
theorem dX10_findFits_73 : decode cX10_findFits 73 = .ok (.ifCond .eq 49, 3) := by decide +kernel
theorem dX10_findFits_76 : decode cX10_findFits 76 = .ok (.aload_n 2, 1) := by decide +kernel
theorem dX10_findFits_77 : decode cX10_findFits 77 = .ok (.aload_n 0, 1) := by decide +kernel
theorem dX10_findFits_78 : decode cX10_findFits 78 = .ok (.getfield 14, 3) := by decide +kernel
theorem dX10_findFits_81 : decode cX10_findFits 81 = .ok (.invokevirtual 47, 3) := by decide +kernel
theorem dX10_findFits_84 : decode cX10_findFits 84 = .ok (.ifCond .eq 38, 3) := by decide +kernel
theorem dX10_findFits_87 : decode cX10_findFits 87 = .ok (.aload_n 0, 1) := by decide +kernel
theorem dX10_findFits_88 : decode cX10_findFits 88 = .ok (.aload_n 0, 1) := by decide +kernel
theorem dX10_findFits_89 : decode cX10_findFits 89 = .ok (.getfield 20, 3) := by decide +kernel
theorem dX10_findFits_92 : decode cX10_findFits 92 = .ok (.ifCond .ne 13, 3) := by decide +kernel
theorem dX10_findFits_95 : decode cX10_findFits 95 = .ok (.bipush 100, 2) := by decide +kernel
theorem dX10_findFits_97 : decode cX10_findFits 97 = .ok (.iload_n 3, 1) := by decide +kernel
theorem dX10_findFits_98 : decode cX10_findFits 98 = .ok (.imul, 1) := by decide +kernel
theorem dX10_findFits_99 : decode cX10_findFits 99 = .ok (.iload 5, 2) := by decide +kernel
theorem dX10_findFits_101 : decode cX10_findFits 101 = .ok (.iadd, 1) := by decide +kernel
theorem dX10_findFits_102 : decode cX10_findFits 102 = .ok (.goto 7, 3) := by decide +kernel
theorem dX10_findFits_105 : decode cX10_findFits 105 = .ok (.aload_n 0, 1) := by decide +kernel
theorem dX10_findFits_106 : decode cX10_findFits 106 = .ok (.getfield 24, 3) := by decide +kernel
theorem dX10_findFits_109 : decode cX10_findFits 109 = .ok (.putfield 24, 3) := by decide +kernel
theorem dX10_findFits_112 : decode cX10_findFits 112 = .ok (.aload_n 0, 1) := by decide +kernel
theorem dX10_findFits_113 : decode cX10_findFits 113 = .ok (.dup, 1) := by decide +kernel
theorem dX10_findFits_114 : decode cX10_findFits 114 = .ok (.getfield 20, 3) := by decide +kernel
theorem dX10_findFits_117 : decode cX10_findFits 117 = .ok (.iconst 1, 1) := by decide +kernel
theorem dX10_findFits_118 : decode cX10_findFits 118 = .ok (.iadd, 1) := by decide +kernel
theorem dX10_findFits_119 : decode cX10_findFits 119 = .ok (.putfield 20, 3) := by decide +kernel
theorem dX10_findFits_122 : decode cX10_findFits 122 = .ok (.iinc 5 1, 3) := by decide +kernel
theorem dX10_findFits_125 : decode cX10_findFits 125 = .ok (.goto (-77), 3) := by decide +kernel
theorem dX10_findFits_128 : decode cX10_findFits 128 = .ok (.iinc 3 1, 3) := by decide +kernel
theorem dX10_findFits_131 : decode cX10_findFits 131 = .ok (.goto (-119), 3) := by decide +kernel
theorem dX10_findFits_134 : decode cX10_findFits 134 = .ok (.return_, 1) := by decide +kernel
set_option maxRecDepth 20000 in
theorem ggX10_tries_X7_mayCome : GoodIn wsX10_tries wsX7_mayCome := goodIn_r _ [6, 7, 8, 9, 10, 11, 12, 13, 14, 15, 16, 17, 18, 19, 20, 21, 22, 23, 24, 25, 26, 27, 28, 29, 30, 31, 32, 5, 33, 34, 35, 36, 37, 38, 39, 40, 41, 42, 43, 44, 45, 46, 47, 48, 49, 50, 51, 52, 53, 54, 55, 87, 88, 89, 90, 91, 92, 93, 94, 95, 96, 97, 98, 99, 100, 101, 102, 103] rfl (by decide +kernel)
set_option maxRecDepth 20000 in
theorem gX10_tries_X7_mayCome : GoodIn wsX10_tries (wsV RX10 53 RX7 yX7_mayCome wsX7_mayCome) := goodIn_app (goodIn_of _ (by decide +kernel)) ggX10_tries_X7_mayCome
set_option maxRecDepth 20000 in
theorem ggX10_tries_X7_become : GoodIn wsX10_tries wsX7_become := goodIn_r _ [59, 8, 7, 60, 61, 62, 63, 13, 64, 15, 65, 11, 12, 14, 87, 88, 89, 102, 103] rfl (by decide +kernel)
set_option maxRecDepth 20000 in
theorem gX10_tries_X7_become : GoodIn wsX10_tries (wsV RX10 57 RX7 yX7_become wsX7_become) := goodIn_app (goodIn_of _ (by decide +kernel)) ggX10_tries_X7_become
set_option maxRecDepth 20000 in
theorem ggX10_tries_X7_bring : GoodIn wsX10_tries wsX7_bring := goodIn_r _ [69, 7, 10, 11, 12, 13, 14, 15, 70, 71, 72, 5, 73, 8, 34, 60, 74, 75, 76, 77, 87, 88, 89, 102, 103, 90, 91, 92, 93, 94, 95, 96, 97, 98, 99, 100, 101] rfl (by decide +kernel)
set_option maxRecDepth 20000 in
theorem gX10_tries_X7_bring : GoodIn wsX10_tries (wsV RX10 61 RX7 yX7_bring wsX7_bring) := goodIn_app (goodIn_of _ (by decide +kernel)) ggX10_tries_X7_bring
theorem dX10_tries_0 : decode cX10_tries 0 = .ok (.aload_n 1, 1) := by decide +kernel
theorem dX10_tries_1 : decode cX10_tries 1 = .ok (.iload_n 2, 1) := by decide +kernel
theorem dX10_tries_2 : decode cX10_tries 2 = .ok (.iload_n 3, 1) := by decide +kernel
theorem dX10_tries_3 : decode cX10_tries 3 = .ok (.invokevirtual 53, 3) := by decide +kernel
theorem dX10_tries_6 : decode cX10_tries 6 = .ok (.ifCond .ne 5, 3) := by decide +kernel
theorem dX10_tries_9 : decode cX10_tries 9 = .ok (.iconst 0, 1) := by decide +kernel
theorem dX10_tries_10 : decode cX10_tries 10 = .ok (.ireturn, 1) := by decide +kernel
theorem dX10_tries_11 : decode cX10_tries 11 = .ok (.aload_n 0, 1) := by decide +kernel
theorem dX10_tries_12 : decode cX10_tries 12 = .ok (.getfield 14, 3) := by decide +kernel
theorem dX10_tries_15 : decode cX10_tries 15 = .ok (.aload_n 1, 1) := by decide +kernel
theorem dX10_tries_16 : decode cX10_tries 16 = .ok (.invokevirtual 57, 3) := by decide +kernel
theorem dX10_tries_19 : decode cX10_tries 19 = .ok (.aload_n 0, 1) := by decide +kernel
theorem dX10_tries_20 : decode cX10_tries 20 = .ok (.getfield 14, 3) := by decide +kernel
theorem dX10_tries_23 : decode cX10_tries 23 = .ok (.iload_n 2, 1) := by decide +kernel
theorem dX10_tries_24 : decode cX10_tries 24 = .ok (.iload_n 3, 1) := by decide +kernel
theorem dX10_tries_25 : decode cX10_tries 25 = .ok (.invokevirtual 61, 3) := by decide +kernel
theorem dX10_tries_28 : decode cX10_tries 28 = .ok (.iconst 1, 1) := by decide +kernel
theorem dX10_tries_29 : decode cX10_tries 29 = .ok (.ireturn, 1) := by decide +kernel
set_option maxRecDepth 20000 in
theorem ggX10_findBest_X7_total : GoodIn wsX10_findBest wsX7_total := goodIn_r _ [10, 11, 12, 13, 14, 15, 16, 17, 18, 19, 20, 9, 21, 22, 23, 24, 25, 26, 27, 28, 29, 30, 31, 32, 33, 34, 35, 36, 37, 38, 39, 40, 41, 42, 43, 44, 45, 46, 47, 48, 49, 50, 51, 52, 53, 54, 55, 56, 57, 58, 59, 60, 61, 62, 63, 64, 65, 66, 67, 68, 69, 70, 71, 72, 73, 74, 75, 76, 77, 78, 79, 80, 81, 82, 83, 84, 85, 86, 87, 88, 139, 140, 141, 142, 143, 144, 145, 146, 147, 148, 149, 150, 151, 152, 153, 154, 155, 156, 157, 158, 159, 160, 161] rfl (by decide +kernel)
set_option maxRecDepth 20000 in
theorem gX10_findBest_X7_total : GoodIn wsX10_findBest (wsV RX10 74 RX7 yX7_total wsX7_total) := goodIn_app (goodIn_of _ (by decide +kernel)) ggX10_findBest_X7_total
set_option maxRecDepth 20000 in
theorem ggX10_findBest_X10_tries : GoodIn wsX10_findBest wsX10_tries := goodIn_r _ [93, 5, 94, 95, 96, 9, 97, 16, 11, 17, 22, 23, 24, 25, 26, 27, 83, 84, 85, 36, 86, 39, 87, 88, 40, 41, 42, 43, 44, 45, 98, 99, 100, 101, 12, 14, 18, 19, 20, 21, 15, 33, 34, 35, 37, 38, 102, 103, 104, 105, 106, 107, 108, 109, 110, 111, 112, 113, 114, 115, 13, 116, 117, 118, 119, 120, 121, 122, 123, 124, 125, 126, 127, 128, 129, 72, 73, 74, 130, 131, 132, 133, 134, 135, 136, 137, 138, 139, 140, 141, 142, 143, 144, 145, 146, 147, 148, 149, 150, 151, 152, 153, 154, 155] rfl (by decide +kernel)
set_option maxRecDepth 20000 in
theorem gX10_findBest_X10_tries : GoodIn wsX10_findBest (wsV RX10 43 RX10 yX10_tries wsX10_tries) := goodIn_app (goodIn_of _ (by decide +kernel)) ggX10_findBest_X10_tries
theorem dX10_findBest_0 : decode cX10_findBest 0 = .ok (.aload_n 0, 1) := by decide +kernel
theorem dX10_findBest_1 : decode cX10_findBest 1 = .ok (.iconst (-1), 1) := by decide +kernel
theorem dX10_findBest_2 : decode cX10_findBest 2 = .ok (.putfield 65, 3) := by decide +kernel
theorem dX10_findBest_5 : decode cX10_findBest 5 = .ok (.aload_n 0, 1) := by decide +kernel
theorem dX10_findBest_6 : decode cX10_findBest 6 = .ok (.iconst (-1), 1) := by decide +kernel
theorem dX10_findBest_7 : decode cX10_findBest 7 = .ok (.putfield 68, 3) := by decide +kernel
theorem dX10_findBest_10 : decode cX10_findBest 10 = .ok (.aload_n 0, 1) := by decide +kernel
theorem dX10_findBest_11 : decode cX10_findBest 11 = .ok (.iconst (-1), 1) := by decide +kernel
theorem dX10_findBest_12 : decode cX10_findBest 12 = .ok (.putfield 71, 3) := by decide +kernel
theorem dX10_findBest_15 : decode cX10_findBest 15 = .ok (.aload_n 1, 1) := by decide +kernel
theorem dX10_findBest_16 : decode cX10_findBest 16 = .ok (.invokevirtual 74, 3) := by decide +kernel
theorem dX10_findBest_19 : decode cX10_findBest 19 = .ok (.istore_n 2, 1) := by decide +kernel
theorem dX10_findBest_20 : decode cX10_findBest 20 = .ok (.iconst 0, 1) := by decide +kernel
theorem dX10_findBest_21 : decode cX10_findBest 21 = .ok (.istore_n 3, 1) := by decide +kernel
theorem dX10_findBest_22 : decode cX10_findBest 22 = .ok (.iload_n 3, 1) := by decide +kernel
theorem dX10_findBest_23 : decode cX10_findBest 23 = .ok (.aload_n 1, 1) := by decide +kernel
theorem dX10_findBest_24 : decode cX10_findBest 24 = .ok (.getfield 27, 3) := by decide +kernel
theorem dX10_findBest_27 : decode cX10_findBest 27 = .ok (.getfield 31, 3) := by decide +kernel
theorem dX10_findBest_30 : decode cX10_findBest 30 = .ok (.if_icmp .ge 75, 3) := by decide +kernel
theorem dX10_findBest_33 : decode cX10_findBest 33 = .ok (.iconst 0, 1) := by decide +kernel
theorem dX10_findBest_34 : decode cX10_findBest 34 = .ok (.istore 4, 2) := by decide +kernel
theorem dX10_findBest_36 : decode cX10_findBest 36 = .ok (.iload 4, 2) := by decide +kernel
theorem dX10_findBest_38 : decode cX10_findBest 38 = .ok (.bipush 23, 2) := by decide +kernel
theorem dX10_findBest_40 : decode cX10_findBest 40 = .ok (.if_icmp .ge 59, 3) := by decide +kernel
theorem dX10_findBest_43 : decode cX10_findBest 43 = .ok (.aload_n 0, 1) := by decide +kernel
theorem dX10_findBest_44 : decode cX10_findBest 44 = .ok (.aload_n 1, 1) := by decide +kernel
theorem dX10_findBest_45 : decode cX10_findBest 45 = .ok (.iload_n 3, 1) := by decide +kernel
theorem dX10_findBest_46 : decode cX10_findBest 46 = .ok (.iload 4, 2) := by decide +kernel
theorem dX10_findBest_48 : decode cX10_findBest 48 = .ok (.invokevirtual 43, 3) := by decide +kernel
theorem dX10_findBest_51 : decode cX10_findBest 51 = .ok (.ifCond .eq 13, 3) := by decide +kernel
theorem dX10_findBest_54 : decode cX10_findBest 54 = .ok (.aload_n 0, 1) := by decide +kernel
theorem dX10_findBest_55 : decode cX10_findBest 55 = .ok (.getfield 14, 3) := by decide +kernel
theorem dX10_findBest_58 : decode cX10_findBest 58 = .ok (.invokevirtual 74, 3) := by decide +kernel
theorem dX10_findBest_61 : decode cX10_findBest 61 = .ok (.goto 4, 3) := by decide +kernel
theorem dX10_findBest_64 : decode cX10_findBest 64 = .ok (.iload_n 2, 1) := by decide +kernel
theorem dX10_findBest_65 : decode cX10_findBest 65 = .ok (.istore 5, 2) := by decide +kernel
theorem dX10_findBest_67 : decode cX10_findBest 67 = .ok (.iload 5, 2) := by decide +kernel
theorem dX10_findBest_69 : decode cX10_findBest 69 = .ok (.iload_n 2, 1) := by decide +kernel
theorem dX10_findBest_70 : decode cX10_findBest 70 = .ok (.if_icmp .ge 23, 3) := by decide +kernel
theorem dX10_findBest_73 : decode cX10_findBest 73 = .ok (.iload 5, 2) := by decide +kernel
theorem dX10_findBest_75 : decode cX10_findBest 75 = .ok (.istore_n 2, 1) := by decide +kernel
theorem dX10_findBest_76 : decode cX10_findBest 76 = .ok (.aload_n 0, 1) := by decide +kernel
theorem dX10_findBest_77 : decode cX10_findBest 77 = .ok (.iload_n 3, 1) := by decide +kernel
theorem dX10_findBest_78 : decode cX10_findBest 78 = .ok (.putfield 65, 3) := by decide +kernel
theorem dX10_findBest_81 : decode cX10_findBest 81 = .ok (.aload_n 0, 1) := by decide +kernel
theorem dX10_findBest_82 : decode cX10_findBest 82 = .ok (.iload 4, 2) := by decide +kernel
theorem dX10_findBest_84 : decode cX10_findBest 84 = .ok (.putfield 68, 3) := by decide +kernel
theorem dX10_findBest_87 : decode cX10_findBest 87 = .ok (.aload_n 0, 1) := by decide +kernel
theorem dX10_findBest_88 : decode cX10_findBest 88 = .ok (.iload 5, 2) := by decide +kernel
theorem dX10_findBest_90 : decode cX10_findBest 90 = .ok (.putfield 71, 3) := by decide +kernel
theorem dX10_findBest_93 : decode cX10_findBest 93 = .ok (.iinc 4 1, 3) := by decide +kernel
theorem dX10_findBest_96 : decode cX10_findBest 96 = .ok (.goto (-60), 3) := by decide +kernel
theorem dX10_findBest_99 : decode cX10_findBest 99 = .ok (.iinc 3 1, 3) := by decide +kernel
theorem dX10_findBest_102 : decode cX10_findBest 102 = .ok (.goto (-80), 3) := by decide +kernel
theorem dX10_findBest_105 : decode cX10_findBest 105 = .ok (.return_, 1) := by decide +kernel
set_option maxRecDepth 20000 in
theorem ggX10_runCounter_X7_become : GoodIn wsX10_runCounter wsX7_become := goodIn_r _ [11, 12, 13, 14, 15, 16, 17, 18, 19, 20, 21, 22, 23, 24, 118, 119, 120, 133, 134] rfl (by decide +kernel)
set_option maxRecDepth 20000 in
theorem gX10_runCounter_X7_become : GoodIn wsX10_runCounter (wsV RX10 57 RX7 yX7_become wsX7_become) := goodIn_app (goodIn_of _ (by decide +kernel)) ggX10_runCounter_X7_become
set_option maxRecDepth 20000 in
theorem ggX10_runCounter_X10_draw : GoodIn wsX10_runCounter wsX10_draw := goodIn_r _ [29, 2, 30, 109, 110, 111, 112, 113, 114, 115, 116, 117] rfl (by decide +kernel)
set_option maxRecDepth 20000 in
theorem gX10_runCounter_X10_draw : GoodIn wsX10_runCounter (wsV RX10 87 RX10 yX10_draw wsX10_draw) := goodIn_app (goodIn_of _ (by decide +kernel)) ggX10_runCounter_X10_draw
set_option maxRecDepth 20000 in
theorem ggX10_runCounter_X7_placeOf : GoodIn wsX10_runCounter wsX7_placeOf := goodIn_r _ [34, 13, 35, 22, 23, 18, 24, 20, 118, 119, 120, 133, 134] rfl (by decide +kernel)
set_option maxRecDepth 20000 in
theorem gX10_runCounter_X7_placeOf : GoodIn wsX10_runCounter (wsV RX10 36 RX7 yX7_placeOf wsX7_placeOf) := goodIn_app (goodIn_of _ (by decide +kernel)) ggX10_runCounter_X7_placeOf
set_option maxRecDepth 20000 in
theorem ggX10_runCounter_X7_mayCome : GoodIn wsX10_runCounter wsX7_mayCome := goodIn_r _ [39, 13, 12, 40, 35, 22, 23, 18, 24, 20, 41, 42, 43, 44, 45, 46, 47, 48, 49, 50, 51, 52, 53, 54, 55, 56, 57, 10, 58, 59, 60, 61, 62, 63, 64, 65, 66, 67, 68, 69, 70, 71, 72, 73, 74, 75, 76, 77, 78, 79, 80, 118, 119, 120, 121, 122, 123, 124, 125, 126, 127, 128, 129, 130, 131, 132, 133, 134] rfl (by decide +kernel)
set_option maxRecDepth 20000 in
theorem gX10_runCounter_X7_mayCome : GoodIn wsX10_runCounter (wsV RX10 53 RX7 yX7_mayCome wsX7_mayCome) := goodIn_app (goodIn_of _ (by decide +kernel)) ggX10_runCounter_X7_mayCome
set_option maxRecDepth 20000 in
theorem ggX10_runCounter_X7_bring : GoodIn wsX10_runCounter wsX7_bring := goodIn_r _ [84, 13, 35, 22, 23, 18, 24, 20, 85, 86, 87, 10, 88, 12, 59, 14, 89, 90, 91, 92, 118, 119, 120, 133, 134, 121, 122, 123, 124, 125, 126, 127, 128, 129, 130, 131, 132] rfl (by decide +kernel)
set_option maxRecDepth 20000 in
theorem gX10_runCounter_X7_bring : GoodIn wsX10_runCounter (wsV RX10 61 RX7 yX7_bring wsX7_bring) := goodIn_app (goodIn_of _ (by decide +kernel)) ggX10_runCounter_X7_bring
set_option maxRecDepth 20000 in
theorem ggX10_runCounter_X7_leastOver : GoodIn wsX10_runCounter wsX7_leastOver := goodIn_r _ [96, 12, 59, 97, 98, 99, 10, 100, 60, 101, 102, 103, 104, 105, 106, 107, 108, 61, 62, 63, 64, 65, 13, 35, 22, 23, 18, 24, 20, 66, 67, 68, 44, 69, 70, 46, 49, 50, 51, 52, 53, 54, 118, 119, 120, 121, 122, 123, 124, 125, 126, 127, 128, 129, 130, 131, 132, 133, 134] rfl (by decide +kernel)
set_option maxRecDepth 20000 in
theorem gX10_runCounter_X7_leastOver : GoodIn wsX10_runCounter (wsV RX10 90 RX7 yX7_leastOver wsX7_leastOver) := goodIn_app (goodIn_of _ (by decide +kernel)) ggX10_runCounter_X7_leastOver
theorem dX10_runCounter_0 : decode cX10_runCounter 0 = .ok (.aload_n 0, 1) := by decide +kernel
theorem dX10_runCounter_1 : decode cX10_runCounter 1 = .ok (.getfield 14, 3) := by decide +kernel
theorem dX10_runCounter_4 : decode cX10_runCounter 4 = .ok (.aload_n 1, 1) := by decide +kernel
theorem dX10_runCounter_5 : decode cX10_runCounter 5 = .ok (.invokevirtual 57, 3) := by decide +kernel
theorem dX10_runCounter_8 : decode cX10_runCounter 8 = .ok (.aload_n 0, 1) := by decide +kernel
theorem dX10_runCounter_9 : decode cX10_runCounter 9 = .ok (.iload_n 2, 1) := by decide +kernel
theorem dX10_runCounter_10 : decode cX10_runCounter 10 = .ok (.putfield 78, 3) := by decide +kernel
theorem dX10_runCounter_13 : decode cX10_runCounter 13 = .ok (.aload_n 0, 1) := by decide +kernel
theorem dX10_runCounter_14 : decode cX10_runCounter 14 = .ok (.iconst 0, 1) := by decide +kernel
theorem dX10_runCounter_15 : decode cX10_runCounter 15 = .ok (.putfield 81, 3) := by decide +kernel
theorem dX10_runCounter_18 : decode cX10_runCounter 18 = .ok (.aload_n 0, 1) := by decide +kernel
theorem dX10_runCounter_19 : decode cX10_runCounter 19 = .ok (.iconst 0, 1) := by decide +kernel
theorem dX10_runCounter_20 : decode cX10_runCounter 20 = .ok (.putfield 84, 3) := by decide +kernel
theorem dX10_runCounter_23 : decode cX10_runCounter 23 = .ok (.aload_n 1, 1) := by decide +kernel
theorem dX10_runCounter_24 : decode cX10_runCounter 24 = .ok (.getfield 27, 3) := by decide +kernel
theorem dX10_runCounter_27 : decode cX10_runCounter 27 = .ok (.getfield 31, 3) := by decide +kernel
theorem dX10_runCounter_30 : decode cX10_runCounter 30 = .ok (.istore 4, 2) := by decide +kernel
theorem dX10_runCounter_32 : decode cX10_runCounter 32 = .ok (.aload_n 1, 1) := by decide +kernel
theorem dX10_runCounter_33 : decode cX10_runCounter 33 = .ok (.getfield 27, 3) := by decide +kernel
theorem dX10_runCounter_36 : decode cX10_runCounter 36 = .ok (.getfield 40, 3) := by decide +kernel
theorem dX10_runCounter_39 : decode cX10_runCounter 39 = .ok (.istore 5, 2) := by decide +kernel
theorem dX10_runCounter_41 : decode cX10_runCounter 41 = .ok (.iconst 0, 1) := by decide +kernel
theorem dX10_runCounter_42 : decode cX10_runCounter 42 = .ok (.istore 6, 2) := by decide +kernel
theorem dX10_runCounter_44 : decode cX10_runCounter 44 = .ok (.iload 6, 2) := by decide +kernel
theorem dX10_runCounter_46 : decode cX10_runCounter 46 = .ok (.iload_n 3, 1) := by decide +kernel
theorem dX10_runCounter_47 : decode cX10_runCounter 47 = .ok (.if_icmp .ge 109, 3) := by decide +kernel
theorem dX10_runCounter_50 : decode cX10_runCounter 50 = .ok (.iload 4, 2) := by decide +kernel
theorem dX10_runCounter_52 : decode cX10_runCounter 52 = .ok (.ifCond .le 104, 3) := by decide +kernel
theorem dX10_runCounter_55 : decode cX10_runCounter 55 = .ok (.iload 5, 2) := by decide +kernel
theorem dX10_runCounter_57 : decode cX10_runCounter 57 = .ok (.ifCond .le 99, 3) := by decide +kernel
theorem dX10_runCounter_60 : decode cX10_runCounter 60 = .ok (.aload_n 0, 1) := by decide +kernel
theorem dX10_runCounter_61 : decode cX10_runCounter 61 = .ok (.iload 4, 2) := by decide +kernel
theorem dX10_runCounter_63 : decode cX10_runCounter 63 = .ok (.invokevirtual 87, 3) := by decide +kernel
theorem dX10_runCounter_66 : decode cX10_runCounter 66 = .ok (.istore 7, 2) := by decide +kernel
theorem dX10_runCounter_68 : decode cX10_runCounter 68 = .ok (.aload_n 0, 1) := by decide +kernel
theorem dX10_runCounter_69 : decode cX10_runCounter 69 = .ok (.iload 5, 2) := by decide +kernel
theorem dX10_runCounter_71 : decode cX10_runCounter 71 = .ok (.invokevirtual 87, 3) := by decide +kernel
theorem dX10_runCounter_74 : decode cX10_runCounter 74 = .ok (.istore 8, 2) := by decide +kernel
theorem dX10_runCounter_76 : decode cX10_runCounter 76 = .ok (.aload_n 0, 1) := by decide +kernel
theorem dX10_runCounter_77 : decode cX10_runCounter 77 = .ok (.getfield 14, 3) := by decide +kernel
theorem dX10_runCounter_80 : decode cX10_runCounter 80 = .ok (.iload 7, 2) := by decide +kernel
theorem dX10_runCounter_82 : decode cX10_runCounter 82 = .ok (.invokevirtual 36, 3) := by decide +kernel
theorem dX10_runCounter_85 : decode cX10_runCounter 85 = .ok (.iload 5, 2) := by decide +kernel
theorem dX10_runCounter_87 : decode cX10_runCounter 87 = .ok (.if_icmp .ge 38, 3) := by decide +kernel
theorem dX10_runCounter_90 : decode cX10_runCounter 90 = .ok (.aload_n 0, 1) := by decide +kernel
theorem dX10_runCounter_91 : decode cX10_runCounter 91 = .ok (.getfield 14, 3) := by decide +kernel
theorem dX10_runCounter_94 : decode cX10_runCounter 94 = .ok (.iload 7, 2) := by decide +kernel
theorem dX10_runCounter_96 : decode cX10_runCounter 96 = .ok (.iload 8, 2) := by decide +kernel
theorem dX10_runCounter_98 : decode cX10_runCounter 98 = .ok (.invokevirtual 53, 3) := by decide +kernel
theorem dX10_runCounter_101 : decode cX10_runCounter 101 = .ok (.ifCond .eq 24, 3) := by decide +kernel
theorem dX10_runCounter_104 : decode cX10_runCounter 104 = .ok (.aload_n 0, 1) := by decide +kernel
theorem dX10_runCounter_105 : decode cX10_runCounter 105 = .ok (.getfield 14, 3) := by decide +kernel
theorem dX10_runCounter_108 : decode cX10_runCounter 108 = .ok (.iload 7, 2) := by decide +kernel
theorem dX10_runCounter_110 : decode cX10_runCounter 110 = .ok (.iload 8, 2) := by decide +kernel
theorem dX10_runCounter_112 : decode cX10_runCounter 112 = .ok (.invokevirtual 61, 3) := by decide +kernel
theorem dX10_runCounter_115 : decode cX10_runCounter 115 = .ok (.aload_n 0, 1) := by decide +kernel
theorem dX10_runCounter_116 : decode cX10_runCounter 116 = .ok (.dup, 1) := by decide +kernel
theorem dX10_runCounter_117 : decode cX10_runCounter 117 = .ok (.getfield 81, 3) := by decide +kernel
theorem dX10_runCounter_120 : decode cX10_runCounter 120 = .ok (.iconst 1, 1) := by decide +kernel
theorem dX10_runCounter_121 : decode cX10_runCounter 121 = .ok (.iadd, 1) := by decide +kernel
theorem dX10_runCounter_122 : decode cX10_runCounter 122 = .ok (.putfield 81, 3) := by decide +kernel
theorem dX10_runCounter_125 : decode cX10_runCounter 125 = .ok (.aload_n 0, 1) := by decide +kernel
theorem dX10_runCounter_126 : decode cX10_runCounter 126 = .ok (.dup, 1) := by decide +kernel
theorem dX10_runCounter_127 : decode cX10_runCounter 127 = .ok (.getfield 84, 3) := by decide +kernel
theorem dX10_runCounter_130 : decode cX10_runCounter 130 = .ok (.aload_n 0, 1) := by decide +kernel
theorem dX10_runCounter_131 : decode cX10_runCounter 131 = .ok (.getfield 14, 3) := by decide +kernel
theorem dX10_runCounter_134 : decode cX10_runCounter 134 = .ok (.invokevirtual 90, 3) := by decide +kernel
theorem dX10_runCounter_137 : decode cX10_runCounter 137 = .ok (.iconst (-1), 1) := by decide +kernel
theorem dX10_runCounter_138 : decode cX10_runCounter 138 = .ok (.if_icmp .ne 7, 3) := by decide +kernel
theorem dX10_runCounter_141 : decode cX10_runCounter 141 = .ok (.iconst 1, 1) := by decide +kernel
theorem dX10_runCounter_142 : decode cX10_runCounter 142 = .ok (.goto 4, 3) := by decide +kernel
theorem dX10_runCounter_145 : decode cX10_runCounter 145 = .ok (.iconst 0, 1) := by decide +kernel
theorem dX10_runCounter_146 : decode cX10_runCounter 146 = .ok (.iadd, 1) := by decide +kernel
theorem dX10_runCounter_147 : decode cX10_runCounter 147 = .ok (.putfield 84, 3) := by decide +kernel
theorem dX10_runCounter_150 : decode cX10_runCounter 150 = .ok (.iinc 6 1, 3) := by decide +kernel
theorem dX10_runCounter_153 : decode cX10_runCounter 153 = .ok (.goto (-109), 3) := by decide +kernel
theorem dX10_runCounter_156 : decode cX10_runCounter 156 = .ok (.return_, 1) := by decide +kernel
theorem dX10_draw_0 : decode cX10_draw 0 = .ok (.aload_n 0, 1) := by decide +kernel
theorem dX10_draw_1 : decode cX10_draw 1 = .ok (.aload_n 0, 1) := by decide +kernel
theorem dX10_draw_2 : decode cX10_draw 2 = .ok (.getfield 78, 3) := by decide +kernel
theorem dX10_draw_5 : decode cX10_draw 5 = .ok (.ldc 93, 2) := by decide +kernel
theorem dX10_draw_7 : decode cX10_draw 7 = .ok (.imul, 1) := by decide +kernel
theorem dX10_draw_8 : decode cX10_draw 8 = .ok (.sipush 12345, 3) := by decide +kernel
theorem dX10_draw_11 : decode cX10_draw 11 = .ok (.iadd, 1) := by decide +kernel
theorem dX10_draw_12 : decode cX10_draw 12 = .ok (.putfield 78, 3) := by decide +kernel
theorem dX10_draw_15 : decode cX10_draw 15 = .ok (.iload_n 1, 1) := by decide +kernel
theorem dX10_draw_16 : decode cX10_draw 16 = .ok (.ifCond .le 19, 3) := by decide +kernel
theorem dX10_draw_19 : decode cX10_draw 19 = .ok (.aload_n 0, 1) := by decide +kernel
theorem dX10_draw_20 : decode cX10_draw 20 = .ok (.getfield 78, 3) := by decide +kernel
theorem dX10_draw_23 : decode cX10_draw 23 = .ok (.bipush 16, 2) := by decide +kernel
theorem dX10_draw_25 : decode cX10_draw 25 = .ok (.iushr, 1) := by decide +kernel
theorem dX10_draw_26 : decode cX10_draw 26 = .ok (.sipush 32767, 3) := by decide +kernel
theorem dX10_draw_29 : decode cX10_draw 29 = .ok (.iand, 1) := by decide +kernel
theorem dX10_draw_30 : decode cX10_draw 30 = .ok (.iload_n 1, 1) := by decide +kernel
theorem dX10_draw_31 : decode cX10_draw 31 = .ok (.irem, 1) := by decide +kernel
theorem dX10_draw_32 : decode cX10_draw 32 = .ok (.goto 4, 3) := by decide +kernel
theorem dX10_draw_35 : decode cX10_draw 35 = .ok (.iconst 0, 1) := by decide +kernel
theorem dX10_draw_36 : decode cX10_draw 36 = .ok (.ireturn, 1) := by decide +kernel
