set_option maxRecDepth 20000 in
theorem ggX2_init_X8_init : GoodIn wsX2_init wsX8_init := goodIn_r _ [12, 13, 2, 3, 14, 15, 16, 17, 18, 19, 20, 21, 22] rfl (by decide +kernel)
set_option maxRecDepth 20000 in
theorem gX2_init_X8_init : GoodIn wsX2_init (wsX8_init) := ggX2_init_X8_init
theorem dX2_init_0 : decode cX2_init 0 = .ok (.aload_n 0, 1) := by decide +kernel
theorem dX2_init_1 : decode cX2_init 1 = .ok (.invokespecial 3, 3) := by decide +kernel
theorem dX2_init_4 : decode cX2_init 4 = .ok (.aload_n 0, 1) := by decide +kernel
theorem dX2_init_5 : decode cX2_init 5 = .ok (.new 9, 3) := by decide +kernel
theorem dX2_init_8 : decode cX2_init 8 = .ok (.dup, 1) := by decide +kernel
theorem dX2_init_9 : decode cX2_init 9 = .ok (.bipush 8, 2) := by decide +kernel
theorem dX2_init_11 : decode cX2_init 11 = .ok (.iconst 1, 1) := by decide +kernel
theorem dX2_init_12 : decode cX2_init 12 = .ok (.invokespecial 11, 3) := by decide +kernel
theorem dX2_init_15 : decode cX2_init 15 = .ok (.putfield 14, 3) := by decide +kernel
theorem dX2_init_18 : decode cX2_init 18 = .ok (.aload_n 0, 1) := by decide +kernel
theorem dX2_init_19 : decode cX2_init 19 = .ok (.new 9, 3) := by decide +kernel
theorem dX2_init_22 : decode cX2_init 22 = .ok (.dup, 1) := by decide +kernel
theorem dX2_init_23 : decode cX2_init 23 = .ok (.sipush 256, 3) := by decide +kernel
theorem dX2_init_26 : decode cX2_init 26 = .ok (.iconst 1, 1) := by decide +kernel
theorem dX2_init_27 : decode cX2_init 27 = .ok (.invokespecial 11, 3) := by decide +kernel
theorem dX2_init_30 : decode cX2_init 30 = .ok (.putfield 20, 3) := by decide +kernel
theorem dX2_init_33 : decode cX2_init 33 = .ok (.aload_n 0, 1) := by decide +kernel
theorem dX2_init_34 : decode cX2_init 34 = .ok (.new 9, 3) := by decide +kernel
theorem dX2_init_37 : decode cX2_init 37 = .ok (.dup, 1) := by decide +kernel
theorem dX2_init_38 : decode cX2_init 38 = .ok (.sipush 256, 3) := by decide +kernel
theorem dX2_init_41 : decode cX2_init 41 = .ok (.iconst 1, 1) := by decide +kernel
theorem dX2_init_42 : decode cX2_init 42 = .ok (.invokespecial 11, 3) := by decide +kernel
theorem dX2_init_45 : decode cX2_init 45 = .ok (.putfield 23, 3) := by decide +kernel
theorem dX2_init_48 : decode cX2_init 48 = .ok (.return_, 1) := by decide +kernel
set_option maxRecDepth 20000 in
theorem ggX2_fewestBetween_X7_thingsAt : GoodIn wsX2_fewestBetween wsX7_thingsAt := goodIn_r _ [5, 6, 7, 8, 9, 10, 11, 12, 13, 14, 43, 44, 45, 46, 47, 48, 49, 50, 51, 52, 53, 54, 55, 56, 57, 58, 59] rfl (by decide +kernel)
set_option maxRecDepth 20000 in
theorem gX2_fewestBetween_X7_thingsAt : GoodIn wsX2_fewestBetween (wsV RX2 26 RX7 yX7_thingsAt wsX7_thingsAt) := goodIn_app (goodIn_of _ (by decide +kernel)) ggX2_fewestBetween_X7_thingsAt
set_option maxRecDepth 20000 in
theorem ggX2_fewestBetween_J6_bitCount_0f7a4 : GoodIn wsX2_fewestBetween wsJ6_bitCount_0f7a4 := goodIn_r _ [18, 19, 20, 21] rfl (by decide +kernel)
set_option maxRecDepth 20000 in
theorem gX2_fewestBetween_J6_bitCount_0f7a4 : GoodIn wsX2_fewestBetween (va_wsS RX2 32 yJ6_bitCount_0f7a4 wsJ6_bitCount_0f7a4) := goodIn_app (goodIn_of _ (by decide +kernel)) ggX2_fewestBetween_J6_bitCount_0f7a4
set_option maxRecDepth 20000 in
theorem ggX2_fewestBetween_X0_goesWith : GoodIn wsX2_fewestBetween wsX0_goesWith := goodIn_r _ [26, 27, 28, 29, 30, 25, 31, 32, 33, 34, 35, 36, 12, 37, 38, 14, 39, 40, 41, 42, 46, 47, 48, 49, 50, 51, 52, 53, 54, 55, 56, 57, 58, 59] rfl (by decide +kernel)
set_option maxRecDepth 20000 in
theorem gX2_fewestBetween_X0_goesWith : GoodIn wsX2_fewestBetween (wsV RX2 41 RX0 yX0_goesWith wsX0_goesWith) := goodIn_app (goodIn_of _ (by decide +kernel)) ggX2_fewestBetween_X0_goesWith
theorem dX2_fewestBetween_0 : decode cX2_fewestBetween 0 = .ok (.aload_n 1, 1) := by decide +kernel
theorem dX2_fewestBetween_1 : decode cX2_fewestBetween 1 = .ok (.iload_n 2, 1) := by decide +kernel
theorem dX2_fewestBetween_2 : decode cX2_fewestBetween 2 = .ok (.invokevirtual 26, 3) := by decide +kernel
theorem dX2_fewestBetween_5 : decode cX2_fewestBetween 5 = .ok (.istore 4, 2) := by decide +kernel
theorem dX2_fewestBetween_7 : decode cX2_fewestBetween 7 = .ok (.aload_n 1, 1) := by decide +kernel
theorem dX2_fewestBetween_8 : decode cX2_fewestBetween 8 = .ok (.iload_n 3, 1) := by decide +kernel
theorem dX2_fewestBetween_9 : decode cX2_fewestBetween 9 = .ok (.invokevirtual 26, 3) := by decide +kernel
theorem dX2_fewestBetween_12 : decode cX2_fewestBetween 12 = .ok (.istore 5, 2) := by decide +kernel
theorem dX2_fewestBetween_14 : decode cX2_fewestBetween 14 = .ok (.iconst (-1), 1) := by decide +kernel
theorem dX2_fewestBetween_15 : decode cX2_fewestBetween 15 = .ok (.istore 6, 2) := by decide +kernel
theorem dX2_fewestBetween_17 : decode cX2_fewestBetween 17 = .ok (.iconst 0, 1) := by decide +kernel
theorem dX2_fewestBetween_18 : decode cX2_fewestBetween 18 = .ok (.istore 7, 2) := by decide +kernel
theorem dX2_fewestBetween_20 : decode cX2_fewestBetween 20 = .ok (.iload 7, 2) := by decide +kernel
theorem dX2_fewestBetween_22 : decode cX2_fewestBetween 22 = .ok (.sipush 4096, 3) := by decide +kernel
theorem dX2_fewestBetween_25 : decode cX2_fewestBetween 25 = .ok (.if_icmp .ge 101, 3) := by decide +kernel
theorem dX2_fewestBetween_28 : decode cX2_fewestBetween 28 = .ok (.iload 7, 2) := by decide +kernel
theorem dX2_fewestBetween_30 : decode cX2_fewestBetween 30 = .ok (.iload 4, 2) := by decide +kernel
theorem dX2_fewestBetween_32 : decode cX2_fewestBetween 32 = .ok (.iload 5, 2) := by decide +kernel
theorem dX2_fewestBetween_34 : decode cX2_fewestBetween 34 = .ok (.ior, 1) := by decide +kernel
theorem dX2_fewestBetween_35 : decode cX2_fewestBetween 35 = .ok (.iconst (-1), 1) := by decide +kernel
theorem dX2_fewestBetween_36 : decode cX2_fewestBetween 36 = .ok (.ixor, 1) := by decide +kernel
theorem dX2_fewestBetween_37 : decode cX2_fewestBetween 37 = .ok (.iand, 1) := by decide +kernel
theorem dX2_fewestBetween_38 : decode cX2_fewestBetween 38 = .ok (.ifCond .ne 7, 3) := by decide +kernel
theorem dX2_fewestBetween_41 : decode cX2_fewestBetween 41 = .ok (.iconst 1, 1) := by decide +kernel
theorem dX2_fewestBetween_42 : decode cX2_fewestBetween 42 = .ok (.goto 4, 3) := by decide +kernel
theorem dX2_fewestBetween_45 : decode cX2_fewestBetween 45 = .ok (.iconst 0, 1) := by decide +kernel
theorem dX2_fewestBetween_46 : decode cX2_fewestBetween 46 = .ok (.istore 8, 2) := by decide +kernel
theorem dX2_fewestBetween_48 : decode cX2_fewestBetween 48 = .ok (.iload 6, 2) := by decide +kernel
theorem dX2_fewestBetween_50 : decode cX2_fewestBetween 50 = .ok (.iconst (-1), 1) := by decide +kernel
theorem dX2_fewestBetween_51 : decode cX2_fewestBetween 51 = .ok (.if_icmp .eq 16, 3) := by decide +kernel
theorem dX2_fewestBetween_54 : decode cX2_fewestBetween 54 = .ok (.iload 7, 2) := by decide +kernel
theorem dX2_fewestBetween_56 : decode cX2_fewestBetween 56 = .ok (.invokestatic 32, 3) := by decide +kernel
theorem dX2_fewestBetween_59 : decode cX2_fewestBetween 59 = .ok (.iload 6, 2) := by decide +kernel
theorem dX2_fewestBetween_61 : decode cX2_fewestBetween 61 = .ok (.invokestatic 32, 3) := by decide +kernel
theorem dX2_fewestBetween_64 : decode cX2_fewestBetween 64 = .ok (.if_icmp .ge 7, 3) := by decide +kernel
theorem dX2_fewestBetween_67 : decode cX2_fewestBetween 67 = .ok (.iconst 1, 1) := by decide +kernel
theorem dX2_fewestBetween_68 : decode cX2_fewestBetween 68 = .ok (.goto 4, 3) := by decide +kernel
theorem dX2_fewestBetween_71 : decode cX2_fewestBetween 71 = .ok (.iconst 0, 1) := by decide +kernel
theorem dX2_fewestBetween_72 : decode cX2_fewestBetween 72 = .ok (.istore 9, 2) := by decide +kernel
theorem dX2_fewestBetween_74 : decode cX2_fewestBetween 74 = .ok (.iload 8, 2) := by decide +kernel
theorem dX2_fewestBetween_76 : decode cX2_fewestBetween 76 = .ok (.ifCond .eq 44, 3) := by decide +kernel
theorem dX2_fewestBetween_79 : decode cX2_fewestBetween 79 = .ok (.iload 9, 2) := by decide +kernel
theorem dX2_fewestBetween_81 : decode cX2_fewestBetween 81 = .ok (.ifCond .eq 39, 3) := by decide +kernel
theorem dX2_fewestBetween_84 : decode cX2_fewestBetween 84 = .ok (.aload_n 1, 1) := by decide +kernel
theorem dX2_fewestBetween_85 : decode cX2_fewestBetween 85 = .ok (.getfield 37, 3) := by decide +kernel
theorem dX2_fewestBetween_88 : decode cX2_fewestBetween 88 = .ok (.iload_n 2, 1) := by decide +kernel
theorem dX2_fewestBetween_89 : decode cX2_fewestBetween 89 = .ok (.iload 4, 2) := by decide +kernel
theorem dX2_fewestBetween_91 : decode cX2_fewestBetween 91 = .ok (.iload 7, 2) := by decide +kernel
theorem dX2_fewestBetween_93 : decode cX2_fewestBetween 93 = .ok (.ixor, 1) := by decide +kernel
theorem dX2_fewestBetween_94 : decode cX2_fewestBetween 94 = .ok (.invokevirtual 41, 3) := by decide +kernel
theorem dX2_fewestBetween_97 : decode cX2_fewestBetween 97 = .ok (.ifCond .eq 23, 3) := by decide +kernel
theorem dX2_fewestBetween_100 : decode cX2_fewestBetween 100 = .ok (.aload_n 1, 1) := by decide +kernel
theorem dX2_fewestBetween_101 : decode cX2_fewestBetween 101 = .ok (.getfield 37, 3) := by decide +kernel
theorem dX2_fewestBetween_104 : decode cX2_fewestBetween 104 = .ok (.iload_n 3, 1) := by decide +kernel
theorem dX2_fewestBetween_105 : decode cX2_fewestBetween 105 = .ok (.iload 5, 2) := by decide +kernel
theorem dX2_fewestBetween_107 : decode cX2_fewestBetween 107 = .ok (.iload 7, 2) := by decide +kernel
theorem dX2_fewestBetween_109 : decode cX2_fewestBetween 109 = .ok (.ixor, 1) := by decide +kernel
theorem dX2_fewestBetween_110 : decode cX2_fewestBetween 110 = .ok (.invokevirtual 41, 3) := by decide +kernel
theorem dX2_fewestBetween_113 : decode cX2_fewestBetween 113 = .ok (.ifCond .eq 7, 3) := by decide +kernel
theorem dX2_fewestBetween_116 : decode cX2_fewestBetween 116 = .ok (.iload 7, 2) := by decide +kernel
theorem dX2_fewestBetween_118 : decode cX2_fewestBetween 118 = .ok (.istore 6, 2) := by decide +kernel
theorem dX2_fewestBetween_120 : decode cX2_fewestBetween 120 = .ok (.iinc 7 1, 3) := by decide +kernel
theorem dX2_fewestBetween_123 : decode cX2_fewestBetween 123 = .ok (.goto (-103), 3) := by decide +kernel
theorem dX2_fewestBetween_126 : decode cX2_fewestBetween 126 = .ok (.iload 6, 2) := by decide +kernel
theorem dX2_fewestBetween_128 : decode cX2_fewestBetween 128 = .ok (.ireturn, 1) := by decide +kernel
set_option maxRecDepth 20000 in
theorem ggX2_cheapestSet_X2_costOf : GoodIn wsX2_cheapestSet wsX2_costOf := goodIn_r _ [6, 7, 1, 8, 9, 10, 11, 12, 13, 14, 15, 120, 121, 122, 123, 124, 125, 126, 127, 128, 129, 130, 131, 132, 133, 134, 135, 136] rfl (by decide +kernel)
set_option maxRecDepth 20000 in
theorem gX2_cheapestSet_X2_costOf : GoodIn wsX2_cheapestSet (wsV RX2 51 RX2 yX2_costOf wsX2_costOf) := goodIn_app (goodIn_of _ (by decide +kernel)) ggX2_cheapestSet_X2_costOf
set_option maxRecDepth 20000 in
theorem ggX2_cheapestSet_J6_bitCount_0f7a4 : GoodIn wsX2_cheapestSet wsJ6_bitCount_0f7a4 := goodIn_r _ [19, 20, 21, 22] rfl (by decide +kernel)
set_option maxRecDepth 20000 in
theorem gX2_cheapestSet_J6_bitCount_0f7a4 : GoodIn wsX2_cheapestSet (va_wsS RX2 32 yJ6_bitCount_0f7a4 wsJ6_bitCount_0f7a4) := goodIn_app (goodIn_of _ (by decide +kernel)) ggX2_cheapestSet_J6_bitCount_0f7a4
set_option maxRecDepth 20000 in
theorem ggX2_cheapestSet_X2_thingsIn : GoodIn wsX2_cheapestSet wsX2_thingsIn := goodIn_r _ [26, 1, 27, 28, 29, 30, 31, 32, 33, 34, 35, 36, 37, 12, 38, 15, 120, 121, 122, 123, 124, 125, 126, 127, 128, 129, 130, 131, 132, 133, 134, 135, 136] rfl (by decide +kernel)
set_option maxRecDepth 20000 in
theorem gX2_cheapestSet_X2_thingsIn : GoodIn wsX2_cheapestSet (wsV RX2 55 RX2 yX2_thingsIn wsX2_thingsIn) := goodIn_app (goodIn_of _ (by decide +kernel)) ggX2_cheapestSet_X2_thingsIn
set_option maxRecDepth 20000 in
theorem ggX2_cheapestSet_X2_othersGo : GoodIn wsX2_cheapestSet wsX2_othersGo := goodIn_r _ [42, 1, 43, 44, 45, 30, 46, 32, 47, 48, 49, 50, 51, 52, 53, 54, 55, 56, 28, 29, 31, 33, 34, 35, 36, 37, 12, 38, 15, 57, 58, 59, 60, 61, 62, 63, 64, 10, 11, 13, 14, 65, 120, 121, 122, 123, 124, 125, 126, 127, 128, 129, 130, 131, 132, 133, 134, 135, 136] rfl (by decide +kernel)
set_option maxRecDepth 20000 in
theorem gX2_cheapestSet_X2_othersGo : GoodIn wsX2_cheapestSet (wsV RX2 58 RX2 yX2_othersGo wsX2_othersGo) := goodIn_app (goodIn_of _ (by decide +kernel)) ggX2_cheapestSet_X2_othersGo
set_option maxRecDepth 20000 in
theorem ggX2_cheapestSet_X2_canPack : GoodIn wsX2_cheapestSet wsX2_canPack := goodIn_r _ [69, 70, 1, 8, 71, 72, 73, 74, 5, 75, 76, 77, 78, 79, 12, 80, 15, 81, 82, 83, 84, 9, 10, 11, 13, 14, 85, 86, 87, 88, 89, 90, 91, 92, 93, 94, 36, 37, 38, 95, 96, 97, 60, 98, 99, 100, 58, 59, 61, 62, 63, 64, 101, 102, 103, 104, 105, 106, 107, 108, 109, 110, 111, 112, 113, 114, 115, 116, 30, 117, 32, 56, 28, 29, 31, 33, 34, 35, 57, 118, 119, 137, 138, 139, 120, 121, 122, 123, 124, 125, 126, 127, 128, 129, 130, 131, 132, 133, 134, 135, 136] rfl (by decide +kernel)
set_option maxRecDepth 20000 in
theorem gX2_cheapestSet_X2_canPack : GoodIn wsX2_cheapestSet (wsV RX2 62 RX2 yX2_canPack wsX2_canPack) := goodIn_app (goodIn_of _ (by decide +kernel)) ggX2_cheapestSet_X2_canPack
theorem dX2_cheapestSet_0 : decode cX2_cheapestSet 0 = .ok (.iconst (-1), 1) := by decide +kernel
theorem dX2_cheapestSet_1 : decode cX2_cheapestSet 1 = .ok (.istore_n 2, 1) := by decide +kernel
theorem dX2_cheapestSet_2 : decode cX2_cheapestSet 2 = .ok (.iconst 0, 1) := by decide +kernel
theorem dX2_cheapestSet_3 : decode cX2_cheapestSet 3 = .ok (.istore_n 3, 1) := by decide +kernel
theorem dX2_cheapestSet_4 : decode cX2_cheapestSet 4 = .ok (.iconst 0, 1) := by decide +kernel
theorem dX2_cheapestSet_5 : decode cX2_cheapestSet 5 = .ok (.istore 4, 2) := by decide +kernel
theorem dX2_cheapestSet_7 : decode cX2_cheapestSet 7 = .ok (.iload 4, 2) := by decide +kernel
theorem dX2_cheapestSet_9 : decode cX2_cheapestSet 9 = .ok (.iconst 1, 1) := by decide +kernel
theorem dX2_cheapestSet_10 : decode cX2_cheapestSet 10 = .ok (.aload_n 1, 1) := by decide +kernel
theorem dX2_cheapestSet_11 : decode cX2_cheapestSet 11 = .ok (.getfield 37, 3) := by decide +kernel
theorem dX2_cheapestSet_14 : decode cX2_cheapestSet 14 = .ok (.getfield 47, 3) := by decide +kernel
theorem dX2_cheapestSet_17 : decode cX2_cheapestSet 17 = .ok (.ishl, 1) := by decide +kernel
theorem dX2_cheapestSet_18 : decode cX2_cheapestSet 18 = .ok (.if_icmp .ge 91, 3) := by decide +kernel
theorem dX2_cheapestSet_21 : decode cX2_cheapestSet 21 = .ok (.aload_n 0, 1) := by decide +kernel
theorem dX2_cheapestSet_22 : decode cX2_cheapestSet 22 = .ok (.aload_n 1, 1) := by decide +kernel
theorem dX2_cheapestSet_23 : decode cX2_cheapestSet 23 = .ok (.iload 4, 2) := by decide +kernel
theorem dX2_cheapestSet_25 : decode cX2_cheapestSet 25 = .ok (.invokevirtual 51, 3) := by decide +kernel
theorem dX2_cheapestSet_28 : decode cX2_cheapestSet 28 = .ok (.bipush 6, 2) := by decide +kernel
theorem dX2_cheapestSet_30 : decode cX2_cheapestSet 30 = .ok (.imul, 1) := by decide +kernel
theorem dX2_cheapestSet_31 : decode cX2_cheapestSet 31 = .ok (.iload 4, 2) := by decide +kernel
theorem dX2_cheapestSet_33 : decode cX2_cheapestSet 33 = .ok (.invokestatic 32, 3) := by decide +kernel
theorem dX2_cheapestSet_36 : decode cX2_cheapestSet 36 = .ok (.iadd, 1) := by decide +kernel
theorem dX2_cheapestSet_37 : decode cX2_cheapestSet 37 = .ok (.istore 5, 2) := by decide +kernel
theorem dX2_cheapestSet_39 : decode cX2_cheapestSet 39 = .ok (.iload_n 2, 1) := by decide +kernel
theorem dX2_cheapestSet_40 : decode cX2_cheapestSet 40 = .ok (.iconst (-1), 1) := by decide +kernel
theorem dX2_cheapestSet_41 : decode cX2_cheapestSet 41 = .ok (.if_icmp .eq 12, 3) := by decide +kernel
theorem dX2_cheapestSet_44 : decode cX2_cheapestSet 44 = .ok (.iload 5, 2) := by decide +kernel
theorem dX2_cheapestSet_46 : decode cX2_cheapestSet 46 = .ok (.iload_n 3, 1) := by decide +kernel
theorem dX2_cheapestSet_47 : decode cX2_cheapestSet 47 = .ok (.if_icmp .lt 6, 3) := by decide +kernel
theorem dX2_cheapestSet_50 : decode cX2_cheapestSet 50 = .ok (.goto 53, 3) := by decide +kernel
theorem dX2_cheapestSet_53 : decode cX2_cheapestSet 53 = .ok (.aload_n 0, 1) := by decide +kernel
theorem dX2_cheapestSet_54 : decode cX2_cheapestSet 54 = .ok (.aload_n 1, 1) := by decide +kernel
theorem dX2_cheapestSet_55 : decode cX2_cheapestSet 55 = .ok (.iload 4, 2) := by decide +kernel
theorem dX2_cheapestSet_57 : decode cX2_cheapestSet 57 = .ok (.invokevirtual 55, 3) := by decide +kernel
theorem dX2_cheapestSet_60 : decode cX2_cheapestSet 60 = .ok (.istore 6, 2) := by decide +kernel
theorem dX2_cheapestSet_62 : decode cX2_cheapestSet 62 = .ok (.iload 6, 2) := by decide +kernel
theorem dX2_cheapestSet_64 : decode cX2_cheapestSet 64 = .ok (.invokestatic 32, 3) := by decide +kernel
theorem dX2_cheapestSet_67 : decode cX2_cheapestSet 67 = .ok (.bipush 8, 2) := by decide +kernel
theorem dX2_cheapestSet_69 : decode cX2_cheapestSet 69 = .ok (.if_icmp .le 6, 3) := by decide +kernel
theorem dX2_cheapestSet_72 : decode cX2_cheapestSet 72 = .ok (.bipush (-2), 2) := by decide +kernel
theorem dX2_cheapestSet_74 : decode cX2_cheapestSet 74 = .ok (.ireturn, 1) := by decide +kernel
theorem dX2_cheapestSet_75 : decode cX2_cheapestSet 75 = .ok (.aload_n 0, 1) := by decide +kernel
theorem dX2_cheapestSet_76 : decode cX2_cheapestSet 76 = .ok (.aload_n 1, 1) := by decide +kernel
theorem dX2_cheapestSet_77 : decode cX2_cheapestSet 77 = .ok (.iload 4, 2) := by decide +kernel
theorem dX2_cheapestSet_79 : decode cX2_cheapestSet 79 = .ok (.invokevirtual 58, 3) := by decide +kernel
theorem dX2_cheapestSet_82 : decode cX2_cheapestSet 82 = .ok (.ifCond .eq 21, 3) := by decide +kernel
theorem dX2_cheapestSet_85 : decode cX2_cheapestSet 85 = .ok (.aload_n 0, 1) := by decide +kernel
theorem dX2_cheapestSet_86 : decode cX2_cheapestSet 86 = .ok (.aload_n 1, 1) := by decide +kernel
theorem dX2_cheapestSet_87 : decode cX2_cheapestSet 87 = .ok (.iload 4, 2) := by decide +kernel
theorem dX2_cheapestSet_89 : decode cX2_cheapestSet 89 = .ok (.iload 6, 2) := by decide +kernel
theorem dX2_cheapestSet_91 : decode cX2_cheapestSet 91 = .ok (.invokevirtual 62, 3) := by decide +kernel
theorem dX2_cheapestSet_94 : decode cX2_cheapestSet 94 = .ok (.ifCond .eq 9, 3) := by decide +kernel
theorem dX2_cheapestSet_97 : decode cX2_cheapestSet 97 = .ok (.iload 4, 2) := by decide +kernel
theorem dX2_cheapestSet_99 : decode cX2_cheapestSet 99 = .ok (.istore_n 2, 1) := by decide +kernel
theorem dX2_cheapestSet_100 : decode cX2_cheapestSet 100 = .ok (.iload 5, 2) := by decide +kernel
theorem dX2_cheapestSet_102 : decode cX2_cheapestSet 102 = .ok (.istore_n 3, 1) := by decide +kernel
theorem dX2_cheapestSet_103 : decode cX2_cheapestSet 103 = .ok (.iinc 4 1, 3) := by decide +kernel
theorem dX2_cheapestSet_106 : decode cX2_cheapestSet 106 = .ok (.goto (-99), 3) := by decide +kernel
theorem dX2_cheapestSet_109 : decode cX2_cheapestSet 109 = .ok (.iload_n 2, 1) := by decide +kernel
theorem dX2_cheapestSet_110 : decode cX2_cheapestSet 110 = .ok (.ireturn, 1) := by decide +kernel
set_option maxRecDepth 20000 in
theorem ggX2_costOf_X8_at_ : GoodIn wsX2_costOf wsX8_at_ := goodIn_r _ [8, 9, 10, 26, 27] rfl (by decide +kernel)
set_option maxRecDepth 20000 in
theorem gX2_costOf_X8_at_ : GoodIn wsX2_costOf (wsV RX2 72 RX8 yX8_at_ wsX8_at_) := goodIn_app (goodIn_of _ (by decide +kernel)) ggX2_costOf_X8_at_
theorem dX2_costOf_0 : decode cX2_costOf 0 = .ok (.iconst 0, 1) := by decide +kernel
theorem dX2_costOf_1 : decode cX2_costOf 1 = .ok (.istore_n 3, 1) := by decide +kernel
theorem dX2_costOf_2 : decode cX2_costOf 2 = .ok (.iload_n 2, 1) := by decide +kernel
theorem dX2_costOf_3 : decode cX2_costOf 3 = .ok (.aload_n 1, 1) := by decide +kernel
theorem dX2_costOf_4 : decode cX2_costOf 4 = .ok (.getfield 66, 3) := by decide +kernel
theorem dX2_costOf_7 : decode cX2_costOf 7 = .ok (.iconst (-1), 1) := by decide +kernel
theorem dX2_costOf_8 : decode cX2_costOf 8 = .ok (.ixor, 1) := by decide +kernel
theorem dX2_costOf_9 : decode cX2_costOf 9 = .ok (.iand, 1) := by decide +kernel
theorem dX2_costOf_10 : decode cX2_costOf 10 = .ok (.istore 4, 2) := by decide +kernel
theorem dX2_costOf_12 : decode cX2_costOf 12 = .ok (.iconst 0, 1) := by decide +kernel
theorem dX2_costOf_13 : decode cX2_costOf 13 = .ok (.istore 5, 2) := by decide +kernel
theorem dX2_costOf_15 : decode cX2_costOf 15 = .ok (.iload 5, 2) := by decide +kernel
theorem dX2_costOf_17 : decode cX2_costOf 17 = .ok (.aload_n 1, 1) := by decide +kernel
theorem dX2_costOf_18 : decode cX2_costOf 18 = .ok (.getfield 37, 3) := by decide +kernel
theorem dX2_costOf_21 : decode cX2_costOf 21 = .ok (.getfield 47, 3) := by decide +kernel
theorem dX2_costOf_24 : decode cX2_costOf 24 = .ok (.if_icmp .ge 35, 3) := by decide +kernel
theorem dX2_costOf_27 : decode cX2_costOf 27 = .ok (.iload 4, 2) := by decide +kernel
theorem dX2_costOf_29 : decode cX2_costOf 29 = .ok (.iload 5, 2) := by decide +kernel
theorem dX2_costOf_31 : decode cX2_costOf 31 = .ok (.ishr, 1) := by decide +kernel
theorem dX2_costOf_32 : decode cX2_costOf 32 = .ok (.iconst 1, 1) := by decide +kernel
theorem dX2_costOf_33 : decode cX2_costOf 33 = .ok (.iand, 1) := by decide +kernel
theorem dX2_costOf_34 : decode cX2_costOf 34 = .ok (.ifCond .eq 19, 3) := by decide +kernel
theorem dX2_costOf_37 : decode cX2_costOf 37 = .ok (.iload_n 3, 1) := by decide +kernel
theorem dX2_costOf_38 : decode cX2_costOf 38 = .ok (.aload_n 1, 1) := by decide +kernel
theorem dX2_costOf_39 : decode cX2_costOf 39 = .ok (.getfield 37, 3) := by decide +kernel
theorem dX2_costOf_42 : decode cX2_costOf 42 = .ok (.getfield 69, 3) := by decide +kernel
theorem dX2_costOf_45 : decode cX2_costOf 45 = .ok (.iload 5, 2) := by decide +kernel
theorem dX2_costOf_47 : decode cX2_costOf 47 = .ok (.iconst 3, 1) := by decide +kernel
theorem dX2_costOf_48 : decode cX2_costOf 48 = .ok (.invokevirtual 72, 3) := by decide +kernel
theorem dX2_costOf_51 : decode cX2_costOf 51 = .ok (.iadd, 1) := by decide +kernel
theorem dX2_costOf_52 : decode cX2_costOf 52 = .ok (.istore_n 3, 1) := by decide +kernel
theorem dX2_costOf_53 : decode cX2_costOf 53 = .ok (.iinc 5 1, 3) := by decide +kernel
theorem dX2_costOf_56 : decode cX2_costOf 56 = .ok (.goto (-41), 3) := by decide +kernel
theorem dX2_costOf_59 : decode cX2_costOf 59 = .ok (.iload_n 3, 1) := by decide +kernel
theorem dX2_costOf_60 : decode cX2_costOf 60 = .ok (.ireturn, 1) := by decide +kernel
set_option maxRecDepth 20000 in
theorem ggX2_thingsIn_X7_thingsAt : GoodIn wsX2_thingsIn wsX7_thingsAt := goodIn_r _ [6, 7, 8, 9, 10, 11, 12, 13, 14, 15, 16, 17, 18, 19, 20, 21, 22, 23, 24, 25, 26, 27, 28, 29, 30, 31, 32] rfl (by decide +kernel)
set_option maxRecDepth 20000 in
theorem gX2_thingsIn_X7_thingsAt : GoodIn wsX2_thingsIn (wsV RX2 26 RX7 yX7_thingsAt wsX7_thingsAt) := goodIn_app (goodIn_of _ (by decide +kernel)) ggX2_thingsIn_X7_thingsAt
theorem dX2_thingsIn_0 : decode cX2_thingsIn 0 = .ok (.iconst 0, 1) := by decide +kernel
theorem dX2_thingsIn_1 : decode cX2_thingsIn 1 = .ok (.istore_n 3, 1) := by decide +kernel
theorem dX2_thingsIn_2 : decode cX2_thingsIn 2 = .ok (.iconst 0, 1) := by decide +kernel
theorem dX2_thingsIn_3 : decode cX2_thingsIn 3 = .ok (.istore 4, 2) := by decide +kernel
theorem dX2_thingsIn_5 : decode cX2_thingsIn 5 = .ok (.iload 4, 2) := by decide +kernel
theorem dX2_thingsIn_7 : decode cX2_thingsIn 7 = .ok (.aload_n 1, 1) := by decide +kernel
theorem dX2_thingsIn_8 : decode cX2_thingsIn 8 = .ok (.getfield 37, 3) := by decide +kernel
theorem dX2_thingsIn_11 : decode cX2_thingsIn 11 = .ok (.getfield 47, 3) := by decide +kernel
theorem dX2_thingsIn_14 : decode cX2_thingsIn 14 = .ok (.if_icmp .ge 27, 3) := by decide +kernel
theorem dX2_thingsIn_17 : decode cX2_thingsIn 17 = .ok (.iload_n 2, 1) := by decide +kernel
theorem dX2_thingsIn_18 : decode cX2_thingsIn 18 = .ok (.iload 4, 2) := by decide +kernel
theorem dX2_thingsIn_20 : decode cX2_thingsIn 20 = .ok (.ishr, 1) := by decide +kernel
theorem dX2_thingsIn_21 : decode cX2_thingsIn 21 = .ok (.iconst 1, 1) := by decide +kernel
theorem dX2_thingsIn_22 : decode cX2_thingsIn 22 = .ok (.iand, 1) := by decide +kernel
theorem dX2_thingsIn_23 : decode cX2_thingsIn 23 = .ok (.ifCond .eq 12, 3) := by decide +kernel
theorem dX2_thingsIn_26 : decode cX2_thingsIn 26 = .ok (.iload_n 3, 1) := by decide +kernel
theorem dX2_thingsIn_27 : decode cX2_thingsIn 27 = .ok (.aload_n 1, 1) := by decide +kernel
theorem dX2_thingsIn_28 : decode cX2_thingsIn 28 = .ok (.iload 4, 2) := by decide +kernel
theorem dX2_thingsIn_30 : decode cX2_thingsIn 30 = .ok (.invokevirtual 26, 3) := by decide +kernel
theorem dX2_thingsIn_33 : decode cX2_thingsIn 33 = .ok (.ior, 1) := by decide +kernel
theorem dX2_thingsIn_34 : decode cX2_thingsIn 34 = .ok (.istore_n 3, 1) := by decide +kernel
theorem dX2_thingsIn_35 : decode cX2_thingsIn 35 = .ok (.iinc 4 1, 3) := by decide +kernel
theorem dX2_thingsIn_38 : decode cX2_thingsIn 38 = .ok (.goto (-33), 3) := by decide +kernel
theorem dX2_thingsIn_41 : decode cX2_thingsIn 41 = .ok (.iload_n 3, 1) := by decide +kernel
theorem dX2_thingsIn_42 : decode cX2_thingsIn 42 = .ok (.ireturn, 1) := by decide +kernel
set_option maxRecDepth 20000 in
theorem ggX2_othersGo_X7_overIn : GoodIn wsX2_othersGo wsX7_overIn := goodIn_r _ [6, 7, 8, 9, 10, 11, 12, 13, 14, 15, 5, 16, 17, 18, 19, 20, 21, 22, 23, 24, 25, 26, 27, 28, 29, 30, 31, 32, 33, 34, 35, 36, 37, 38, 39, 40, 41, 42, 43, 44, 45, 46, 47, 48, 49, 50, 51, 52, 53, 54, 55, 56, 57, 58] rfl (by decide +kernel)
set_option maxRecDepth 20000 in
theorem gX2_othersGo_X7_overIn : GoodIn wsX2_othersGo (wsV RX2 76 RX7 yX7_overIn wsX7_overIn) := goodIn_app (goodIn_of _ (by decide +kernel)) ggX2_othersGo_X7_overIn
theorem dX2_othersGo_0 : decode cX2_othersGo 0 = .ok (.iconst 0, 1) := by decide +kernel
theorem dX2_othersGo_1 : decode cX2_othersGo 1 = .ok (.istore_n 3, 1) := by decide +kernel
theorem dX2_othersGo_2 : decode cX2_othersGo 2 = .ok (.iload_n 3, 1) := by decide +kernel
theorem dX2_othersGo_3 : decode cX2_othersGo 3 = .ok (.aload_n 1, 1) := by decide +kernel
theorem dX2_othersGo_4 : decode cX2_othersGo 4 = .ok (.getfield 37, 3) := by decide +kernel
theorem dX2_othersGo_7 : decode cX2_othersGo 7 = .ok (.getfield 47, 3) := by decide +kernel
theorem dX2_othersGo_10 : decode cX2_othersGo 10 = .ok (.if_icmp .ge 27, 3) := by decide +kernel
theorem dX2_othersGo_13 : decode cX2_othersGo 13 = .ok (.iload_n 2, 1) := by decide +kernel
theorem dX2_othersGo_14 : decode cX2_othersGo 14 = .ok (.iload_n 3, 1) := by decide +kernel
theorem dX2_othersGo_15 : decode cX2_othersGo 15 = .ok (.ishr, 1) := by decide +kernel
theorem dX2_othersGo_16 : decode cX2_othersGo 16 = .ok (.iconst 1, 1) := by decide +kernel
theorem dX2_othersGo_17 : decode cX2_othersGo 17 = .ok (.iand, 1) := by decide +kernel
theorem dX2_othersGo_18 : decode cX2_othersGo 18 = .ok (.ifCond .ne 13, 3) := by decide +kernel
theorem dX2_othersGo_21 : decode cX2_othersGo 21 = .ok (.aload_n 1, 1) := by decide +kernel
theorem dX2_othersGo_22 : decode cX2_othersGo 22 = .ok (.iload_n 3, 1) := by decide +kernel
theorem dX2_othersGo_23 : decode cX2_othersGo 23 = .ok (.invokevirtual 76, 3) := by decide +kernel
theorem dX2_othersGo_26 : decode cX2_othersGo 26 = .ok (.ifCond .le 5, 3) := by decide +kernel
theorem dX2_othersGo_29 : decode cX2_othersGo 29 = .ok (.iconst 0, 1) := by decide +kernel
theorem dX2_othersGo_30 : decode cX2_othersGo 30 = .ok (.ireturn, 1) := by decide +kernel
theorem dX2_othersGo_31 : decode cX2_othersGo 31 = .ok (.iinc 3 1, 3) := by decide +kernel
theorem dX2_othersGo_34 : decode cX2_othersGo 34 = .ok (.goto (-32), 3) := by decide +kernel
theorem dX2_othersGo_37 : decode cX2_othersGo 37 = .ok (.iconst 1, 1) := by decide +kernel
theorem dX2_othersGo_38 : decode cX2_othersGo 38 = .ok (.ireturn, 1) := by decide +kernel
set_option maxRecDepth 20000 in
theorem ggX2_canPack_X2_listItems : GoodIn wsX2_canPack wsX2_listItems := goodIn_r _ [9, 10, 11, 12, 13, 14, 15, 16, 81, 82, 83, 99, 100] rfl (by decide +kernel)
set_option maxRecDepth 20000 in
theorem gX2_canPack_X2_listItems : GoodIn wsX2_canPack (wsV RX2 79 RX2 yX2_listItems wsX2_listItems) := goodIn_app (goodIn_of _ (by decide +kernel)) ggX2_canPack_X2_listItems
set_option maxRecDepth 20000 in
theorem ggX2_canPack_X8_fill : GoodIn wsX2_canPack wsX8_fill := goodIn_r _ [20, 16, 99, 100] rfl (by decide +kernel)
set_option maxRecDepth 20000 in
theorem gX2_canPack_X8_fill : GoodIn wsX2_canPack (wsV RX2 82 RX8 yX8_fill wsX8_fill) := goodIn_app (goodIn_of _ (by decide +kernel)) ggX2_canPack_X8_fill
set_option maxRecDepth 20000 in
theorem ggX2_canPack_X8_set : GoodIn wsX2_canPack wsX8_set := goodIn_r _ [15, 16, 99, 100] rfl (by decide +kernel)
set_option maxRecDepth 20000 in
theorem gX2_canPack_X8_set : GoodIn wsX2_canPack (wsV RX2 86 RX8 yX8_set wsX8_set) := goodIn_app (goodIn_of _ (by decide +kernel)) ggX2_canPack_X8_set
set_option maxRecDepth 20000 in
theorem ggX2_canPack_X8_at_ : GoodIn wsX2_canPack wsX8_at_ := goodIn_r _ [24, 25, 16, 99, 100] rfl (by decide +kernel)
set_option maxRecDepth 20000 in
theorem gX2_canPack_X8_at_ : GoodIn wsX2_canPack (wsV RX2 72 RX8 yX8_at_ wsX8_at_) := goodIn_app (goodIn_of _ (by decide +kernel)) ggX2_canPack_X8_at_
set_option maxRecDepth 20000 in
theorem ggX2_canPack_X2_takeIntoCase : GoodIn wsX2_canPack wsX2_takeIntoCase := goodIn_r _ [29, 30, 31, 32, 33, 8, 34, 10, 35, 36, 37, 14, 38, 16, 39, 40, 41, 42, 43, 44, 45, 46, 47, 48, 49, 50, 51, 22, 23, 24, 25, 52, 53, 54, 55, 11, 12, 13, 15, 81, 82, 83, 99, 100, 87, 88, 89, 90, 91, 92, 93, 94, 95, 96, 97, 98] rfl (by decide +kernel)
set_option maxRecDepth 20000 in
theorem gX2_canPack_X2_takeIntoCase : GoodIn wsX2_canPack (wsV RX2 89 RX2 yX2_takeIntoCase wsX2_takeIntoCase) := goodIn_app (goodIn_of _ (by decide +kernel)) ggX2_canPack_X2_takeIntoCase
set_option maxRecDepth 20000 in
theorem ggX2_canPack_X2_widen : GoodIn wsX2_canPack wsX2_widen := goodIn_r _ [59, 1, 30, 35, 36, 37, 14, 38, 16, 11, 12, 13, 15, 81, 82, 83, 99, 100] rfl (by decide +kernel)
set_option maxRecDepth 20000 in
theorem gX2_canPack_X2_widen : GoodIn wsX2_canPack (wsV RX2 93 RX2 yX2_widen wsX2_widen) := goodIn_app (goodIn_of _ (by decide +kernel)) ggX2_canPack_X2_widen
set_option maxRecDepth 20000 in
theorem ggX2_canPack_X2_takeOnPerson : GoodIn wsX2_canPack wsX2_takeOnPerson := goodIn_r _ [63, 64, 30, 21, 22, 23, 14, 24, 25, 16, 65, 66, 67, 68, 69, 70, 71, 72, 73, 74, 75, 76, 77, 36, 37, 38, 78, 46, 47, 42, 48, 49, 50, 51, 79, 53, 54, 55, 31, 32, 33, 8, 34, 10, 35, 80, 11, 12, 13, 15, 84, 85, 86, 87, 88, 89, 90, 91, 92, 93, 94, 95, 96, 97, 98, 81, 82, 83, 99, 100] rfl (by decide +kernel)
set_option maxRecDepth 20000 in
theorem gX2_canPack_X2_takeOnPerson : GoodIn wsX2_canPack (wsV RX2 99 RX2 yX2_takeOnPerson wsX2_takeOnPerson) := goodIn_app (goodIn_of _ (by decide +kernel)) ggX2_canPack_X2_takeOnPerson
set_option maxRecDepth 20000 in
theorem ggX2_canPack_X8_at : GoodIn wsX2_canPack wsX8_at := goodIn_r _ [38, 16, 99, 100] rfl (by decide +kernel)
set_option maxRecDepth 20000 in
theorem gX2_canPack_X8_at : GoodIn wsX2_canPack (wsV RX2 103 RX8 yX8_at wsX8_at) := goodIn_app (goodIn_of _ (by decide +kernel)) ggX2_canPack_X8_at
theorem dX2_canPack_0 : decode cX2_canPack 0 = .ok (.iconst 1, 1) := by decide +kernel
theorem dX2_canPack_1 : decode cX2_canPack 1 = .ok (.aload_n 0, 1) := by decide +kernel
theorem dX2_canPack_2 : decode cX2_canPack 2 = .ok (.iload_n 3, 1) := by decide +kernel
theorem dX2_canPack_3 : decode cX2_canPack 3 = .ok (.invokevirtual 79, 3) := by decide +kernel
theorem dX2_canPack_6 : decode cX2_canPack 6 = .ok (.ishl, 1) := by decide +kernel
theorem dX2_canPack_7 : decode cX2_canPack 7 = .ok (.iconst 1, 1) := by decide +kernel
theorem dX2_canPack_8 : decode cX2_canPack 8 = .ok (.isub, 1) := by decide +kernel
theorem dX2_canPack_9 : decode cX2_canPack 9 = .ok (.istore 4, 2) := by decide +kernel
theorem dX2_canPack_11 : decode cX2_canPack 11 = .ok (.aload_n 0, 1) := by decide +kernel
theorem dX2_canPack_12 : decode cX2_canPack 12 = .ok (.getfield 20, 3) := by decide +kernel
theorem dX2_canPack_15 : decode cX2_canPack 15 = .ok (.iconst 0, 1) := by decide +kernel
theorem dX2_canPack_16 : decode cX2_canPack 16 = .ok (.invokevirtual 82, 3) := by decide +kernel
theorem dX2_canPack_19 : decode cX2_canPack 19 = .ok (.aload_n 0, 1) := by decide +kernel
theorem dX2_canPack_20 : decode cX2_canPack 20 = .ok (.getfield 20, 3) := by decide +kernel
theorem dX2_canPack_23 : decode cX2_canPack 23 = .ok (.iconst 0, 1) := by decide +kernel
theorem dX2_canPack_24 : decode cX2_canPack 24 = .ok (.iconst 1, 1) := by decide +kernel
theorem dX2_canPack_25 : decode cX2_canPack 25 = .ok (.invokevirtual 86, 3) := by decide +kernel
theorem dX2_canPack_28 : decode cX2_canPack 28 = .ok (.iconst 0, 1) := by decide +kernel
theorem dX2_canPack_29 : decode cX2_canPack 29 = .ok (.istore 5, 2) := by decide +kernel
theorem dX2_canPack_31 : decode cX2_canPack 31 = .ok (.iconst 0, 1) := by decide +kernel
theorem dX2_canPack_32 : decode cX2_canPack 32 = .ok (.istore 6, 2) := by decide +kernel
theorem dX2_canPack_34 : decode cX2_canPack 34 = .ok (.iload 6, 2) := by decide +kernel
theorem dX2_canPack_36 : decode cX2_canPack 36 = .ok (.aload_n 1, 1) := by decide +kernel
theorem dX2_canPack_37 : decode cX2_canPack 37 = .ok (.getfield 37, 3) := by decide +kernel
theorem dX2_canPack_40 : decode cX2_canPack 40 = .ok (.getfield 47, 3) := by decide +kernel
theorem dX2_canPack_43 : decode cX2_canPack 43 = .ok (.if_icmp .ge 56, 3) := by decide +kernel
theorem dX2_canPack_46 : decode cX2_canPack 46 = .ok (.iload_n 2, 1) := by decide +kernel
theorem dX2_canPack_47 : decode cX2_canPack 47 = .ok (.iload 6, 2) := by decide +kernel
theorem dX2_canPack_49 : decode cX2_canPack 49 = .ok (.ishr, 1) := by decide +kernel
theorem dX2_canPack_50 : decode cX2_canPack 50 = .ok (.iconst 1, 1) := by decide +kernel
theorem dX2_canPack_51 : decode cX2_canPack 51 = .ok (.iand, 1) := by decide +kernel
theorem dX2_canPack_52 : decode cX2_canPack 52 = .ok (.ifCond .eq 41, 3) := by decide +kernel
theorem dX2_canPack_55 : decode cX2_canPack 55 = .ok (.iload 5, 2) := by decide +kernel
theorem dX2_canPack_57 : decode cX2_canPack 57 = .ok (.iconst 1, 1) := by decide +kernel
theorem dX2_canPack_58 : decode cX2_canPack 58 = .ok (.aload_n 1, 1) := by decide +kernel
theorem dX2_canPack_59 : decode cX2_canPack 59 = .ok (.getfield 37, 3) := by decide +kernel
theorem dX2_canPack_62 : decode cX2_canPack 62 = .ok (.getfield 69, 3) := by decide +kernel
theorem dX2_canPack_65 : decode cX2_canPack 65 = .ok (.iload 6, 2) := by decide +kernel
theorem dX2_canPack_67 : decode cX2_canPack 67 = .ok (.iconst 0, 1) := by decide +kernel
theorem dX2_canPack_68 : decode cX2_canPack 68 = .ok (.invokevirtual 72, 3) := by decide +kernel
theorem dX2_canPack_71 : decode cX2_canPack 71 = .ok (.ishl, 1) := by decide +kernel
theorem dX2_canPack_72 : decode cX2_canPack 72 = .ok (.ior, 1) := by decide +kernel
theorem dX2_canPack_73 : decode cX2_canPack 73 = .ok (.istore 5, 2) := by decide +kernel
theorem dX2_canPack_75 : decode cX2_canPack 75 = .ok (.aload_n 0, 1) := by decide +kernel
theorem dX2_canPack_76 : decode cX2_canPack 76 = .ok (.aload_n 1, 1) := by decide +kernel
theorem dX2_canPack_77 : decode cX2_canPack 77 = .ok (.getfield 37, 3) := by decide +kernel
theorem dX2_canPack_80 : decode cX2_canPack 80 = .ok (.iload 6, 2) := by decide +kernel
theorem dX2_canPack_82 : decode cX2_canPack 82 = .ok (.iload 4, 2) := by decide +kernel
theorem dX2_canPack_84 : decode cX2_canPack 84 = .ok (.invokevirtual 89, 3) := by decide +kernel
theorem dX2_canPack_87 : decode cX2_canPack 87 = .ok (.aload_n 0, 1) := by decide +kernel
theorem dX2_canPack_88 : decode cX2_canPack 88 = .ok (.iload 4, 2) := by decide +kernel
theorem dX2_canPack_90 : decode cX2_canPack 90 = .ok (.invokevirtual 93, 3) := by decide +kernel
theorem dX2_canPack_93 : decode cX2_canPack 93 = .ok (.iinc 6 1, 3) := by decide +kernel
theorem dX2_canPack_96 : decode cX2_canPack 96 = .ok (.goto (-62), 3) := by decide +kernel
theorem dX2_canPack_99 : decode cX2_canPack 99 = .ok (.iconst 0, 1) := by decide +kernel
theorem dX2_canPack_100 : decode cX2_canPack 100 = .ok (.istore 6, 2) := by decide +kernel
theorem dX2_canPack_102 : decode cX2_canPack 102 = .ok (.iload 6, 2) := by decide +kernel
theorem dX2_canPack_104 : decode cX2_canPack 104 = .ok (.aload_n 1, 1) := by decide +kernel
theorem dX2_canPack_105 : decode cX2_canPack 105 = .ok (.getfield 37, 3) := by decide +kernel
theorem dX2_canPack_108 : decode cX2_canPack 108 = .ok (.getfield 96, 3) := by decide +kernel
theorem dX2_canPack_111 : decode cX2_canPack 111 = .ok (.if_icmp .ge 34, 3) := by decide +kernel
theorem dX2_canPack_114 : decode cX2_canPack 114 = .ok (.iload 5, 2) := by decide +kernel
theorem dX2_canPack_116 : decode cX2_canPack 116 = .ok (.iload 6, 2) := by decide +kernel
theorem dX2_canPack_118 : decode cX2_canPack 118 = .ok (.ishr, 1) := by decide +kernel
theorem dX2_canPack_119 : decode cX2_canPack 119 = .ok (.iconst 1, 1) := by decide +kernel
theorem dX2_canPack_120 : decode cX2_canPack 120 = .ok (.iand, 1) := by decide +kernel
theorem dX2_canPack_121 : decode cX2_canPack 121 = .ok (.ifCond .eq 18, 3) := by decide +kernel
theorem dX2_canPack_124 : decode cX2_canPack 124 = .ok (.aload_n 0, 1) := by decide +kernel
theorem dX2_canPack_125 : decode cX2_canPack 125 = .ok (.aload_n 1, 1) := by decide +kernel
theorem dX2_canPack_126 : decode cX2_canPack 126 = .ok (.iload 6, 2) := by decide +kernel
theorem dX2_canPack_128 : decode cX2_canPack 128 = .ok (.iload 4, 2) := by decide +kernel
theorem dX2_canPack_130 : decode cX2_canPack 130 = .ok (.invokevirtual 99, 3) := by decide +kernel
theorem dX2_canPack_133 : decode cX2_canPack 133 = .ok (.aload_n 0, 1) := by decide +kernel
theorem dX2_canPack_134 : decode cX2_canPack 134 = .ok (.iload 4, 2) := by decide +kernel
theorem dX2_canPack_136 : decode cX2_canPack 136 = .ok (.invokevirtual 93, 3) := by decide +kernel
theorem dX2_canPack_139 : decode cX2_canPack 139 = .ok (.iinc 6 1, 3) := by decide +kernel
theorem dX2_canPack_142 : decode cX2_canPack 142 = .ok (.goto (-40), 3) := by decide +kernel
theorem dX2_canPack_145 : decode cX2_canPack 145 = .ok (.aload_n 0, 1) := by decide +kernel
theorem dX2_canPack_146 : decode cX2_canPack 146 = .ok (.getfield 20, 3) := by decide +kernel
theorem dX2_canPack_149 : decode cX2_canPack 149 = .ok (.iload 4, 2) := by decide +kernel
theorem dX2_canPack_151 : decode cX2_canPack 151 = .ok (.invokevirtual 103, 3) := by decide +kernel
theorem dX2_canPack_154 : decode cX2_canPack 154 = .ok (.ifCond .eq 7, 3) := by decide +kernel
theorem dX2_canPack_157 : decode cX2_canPack 157 = .ok (.iconst 1, 1) := by decide +kernel
theorem dX2_canPack_158 : decode cX2_canPack 158 = .ok (.goto 4, 3) := by decide +kernel
theorem dX2_canPack_161 : decode cX2_canPack 161 = .ok (.iconst 0, 1) := by decide +kernel
theorem dX2_canPack_162 : decode cX2_canPack 162 = .ok (.ireturn, 1) := by decide +kernel
set_option maxRecDepth 20000 in
theorem ggX2_listItems_X8_set : GoodIn wsX2_listItems wsX8_set := goodIn_r _ [6, 7, 11, 12] rfl (by decide +kernel)
set_option maxRecDepth 20000 in
theorem gX2_listItems_X8_set : GoodIn wsX2_listItems (wsV RX2 86 RX8 yX8_set wsX8_set) := goodIn_app (goodIn_of _ (by decide +kernel)) ggX2_listItems_X8_set
theorem dX2_listItems_0 : decode cX2_listItems 0 = .ok (.iconst 0, 1) := by decide +kernel
theorem dX2_listItems_1 : decode cX2_listItems 1 = .ok (.istore_n 2, 1) := by decide +kernel
theorem dX2_listItems_2 : decode cX2_listItems 2 = .ok (.iconst 0, 1) := by decide +kernel
theorem dX2_listItems_3 : decode cX2_listItems 3 = .ok (.istore_n 3, 1) := by decide +kernel
theorem dX2_listItems_4 : decode cX2_listItems 4 = .ok (.iload_n 3, 1) := by decide +kernel
theorem dX2_listItems_5 : decode cX2_listItems 5 = .ok (.bipush 12, 2) := by decide +kernel
theorem dX2_listItems_7 : decode cX2_listItems 7 = .ok (.if_icmp .ge 29, 3) := by decide +kernel
theorem dX2_listItems_10 : decode cX2_listItems 10 = .ok (.iload_n 1, 1) := by decide +kernel
theorem dX2_listItems_11 : decode cX2_listItems 11 = .ok (.iload_n 3, 1) := by decide +kernel
theorem dX2_listItems_12 : decode cX2_listItems 12 = .ok (.ishr, 1) := by decide +kernel
theorem dX2_listItems_13 : decode cX2_listItems 13 = .ok (.iconst 1, 1) := by decide +kernel
theorem dX2_listItems_14 : decode cX2_listItems 14 = .ok (.iand, 1) := by decide +kernel
theorem dX2_listItems_15 : decode cX2_listItems 15 = .ok (.ifCond .eq 15, 3) := by decide +kernel
theorem dX2_listItems_18 : decode cX2_listItems 18 = .ok (.aload_n 0, 1) := by decide +kernel
theorem dX2_listItems_19 : decode cX2_listItems 19 = .ok (.getfield 14, 3) := by decide +kernel
theorem dX2_listItems_22 : decode cX2_listItems 22 = .ok (.iload_n 2, 1) := by decide +kernel
theorem dX2_listItems_23 : decode cX2_listItems 23 = .ok (.iload_n 3, 1) := by decide +kernel
theorem dX2_listItems_24 : decode cX2_listItems 24 = .ok (.invokevirtual 86, 3) := by decide +kernel
theorem dX2_listItems_27 : decode cX2_listItems 27 = .ok (.iinc 2 1, 3) := by decide +kernel
theorem dX2_listItems_30 : decode cX2_listItems 30 = .ok (.iinc 3 1, 3) := by decide +kernel
theorem dX2_listItems_33 : decode cX2_listItems 33 = .ok (.goto (-29), 3) := by decide +kernel
theorem dX2_listItems_36 : decode cX2_listItems 36 = .ok (.iload_n 2, 1) := by decide +kernel
theorem dX2_listItems_37 : decode cX2_listItems 37 = .ok (.ireturn, 1) := by decide +kernel
set_option maxRecDepth 20000 in
theorem ggX2_thingsOf_X8_at : GoodIn wsX2_thingsOf wsX8_at := goodIn_r _ [6, 7, 11, 12] rfl (by decide +kernel)
set_option maxRecDepth 20000 in
theorem gX2_thingsOf_X8_at : GoodIn wsX2_thingsOf (wsV RX2 103 RX8 yX8_at wsX8_at) := goodIn_app (goodIn_of _ (by decide +kernel)) ggX2_thingsOf_X8_at
theorem dX2_thingsOf_0 : decode cX2_thingsOf 0 = .ok (.iconst 0, 1) := by decide +kernel
theorem dX2_thingsOf_1 : decode cX2_thingsOf 1 = .ok (.istore_n 2, 1) := by decide +kernel
theorem dX2_thingsOf_2 : decode cX2_thingsOf 2 = .ok (.iconst 0, 1) := by decide +kernel
theorem dX2_thingsOf_3 : decode cX2_thingsOf 3 = .ok (.istore_n 3, 1) := by decide +kernel
theorem dX2_thingsOf_4 : decode cX2_thingsOf 4 = .ok (.iload_n 3, 1) := by decide +kernel
theorem dX2_thingsOf_5 : decode cX2_thingsOf 5 = .ok (.bipush 8, 2) := by decide +kernel
theorem dX2_thingsOf_7 : decode cX2_thingsOf 7 = .ok (.if_icmp .ge 30, 3) := by decide +kernel
theorem dX2_thingsOf_10 : decode cX2_thingsOf 10 = .ok (.iload_n 1, 1) := by decide +kernel
theorem dX2_thingsOf_11 : decode cX2_thingsOf 11 = .ok (.iload_n 3, 1) := by decide +kernel
theorem dX2_thingsOf_12 : decode cX2_thingsOf 12 = .ok (.ishr, 1) := by decide +kernel
theorem dX2_thingsOf_13 : decode cX2_thingsOf 13 = .ok (.iconst 1, 1) := by decide +kernel
theorem dX2_thingsOf_14 : decode cX2_thingsOf 14 = .ok (.iand, 1) := by decide +kernel
theorem dX2_thingsOf_15 : decode cX2_thingsOf 15 = .ok (.ifCond .eq 16, 3) := by decide +kernel
theorem dX2_thingsOf_18 : decode cX2_thingsOf 18 = .ok (.iload_n 2, 1) := by decide +kernel
theorem dX2_thingsOf_19 : decode cX2_thingsOf 19 = .ok (.iconst 1, 1) := by decide +kernel
theorem dX2_thingsOf_20 : decode cX2_thingsOf 20 = .ok (.aload_n 0, 1) := by decide +kernel
theorem dX2_thingsOf_21 : decode cX2_thingsOf 21 = .ok (.getfield 14, 3) := by decide +kernel
theorem dX2_thingsOf_24 : decode cX2_thingsOf 24 = .ok (.iload_n 3, 1) := by decide +kernel
theorem dX2_thingsOf_25 : decode cX2_thingsOf 25 = .ok (.invokevirtual 103, 3) := by decide +kernel
theorem dX2_thingsOf_28 : decode cX2_thingsOf 28 = .ok (.ishl, 1) := by decide +kernel
theorem dX2_thingsOf_29 : decode cX2_thingsOf 29 = .ok (.ior, 1) := by decide +kernel
theorem dX2_thingsOf_30 : decode cX2_thingsOf 30 = .ok (.istore_n 2, 1) := by decide +kernel
theorem dX2_thingsOf_31 : decode cX2_thingsOf 31 = .ok (.iinc 3 1, 3) := by decide +kernel
theorem dX2_thingsOf_34 : decode cX2_thingsOf 34 = .ok (.goto (-30), 3) := by decide +kernel
theorem dX2_thingsOf_37 : decode cX2_thingsOf 37 = .ok (.iload_n 2, 1) := by decide +kernel
theorem dX2_thingsOf_38 : decode cX2_thingsOf 38 = .ok (.ireturn, 1) := by decide +kernel
set_option maxRecDepth 20000 in
theorem ggX2_takeIntoCase_X2_thingsOf : GoodIn wsX2_takeIntoCase wsX2_thingsOf := goodIn_r _ [6, 7, 8, 9, 10, 11, 12, 13, 39, 40, 41, 42, 43] rfl (by decide +kernel)
set_option maxRecDepth 20000 in
theorem gX2_takeIntoCase_X2_thingsOf : GoodIn wsX2_takeIntoCase (wsV RX2 105 RX2 yX2_thingsOf wsX2_thingsOf) := goodIn_app (goodIn_of _ (by decide +kernel)) ggX2_takeIntoCase_X2_thingsOf
set_option maxRecDepth 20000 in
theorem ggX2_takeIntoCase_X0_goesWith : GoodIn wsX2_takeIntoCase wsX0_goesWith := goodIn_r _ [18, 19, 20, 21, 22, 17, 23, 24, 25, 26, 27, 28, 11, 29, 30, 13, 31, 32, 33, 34, 44, 45, 46, 47, 48, 49, 50, 51, 52, 53, 54, 55, 42, 43] rfl (by decide +kernel)
set_option maxRecDepth 20000 in
theorem gX2_takeIntoCase_X0_goesWith : GoodIn wsX2_takeIntoCase (wsV RX2 41 RX0 yX0_goesWith wsX0_goesWith) := goodIn_app (goodIn_of _ (by decide +kernel)) ggX2_takeIntoCase_X0_goesWith
set_option maxRecDepth 20000 in
theorem ggX2_takeIntoCase_X8_set : GoodIn wsX2_takeIntoCase wsX8_set := goodIn_r _ [38, 13, 42, 43] rfl (by decide +kernel)
set_option maxRecDepth 20000 in
theorem gX2_takeIntoCase_X8_set : GoodIn wsX2_takeIntoCase (wsV RX2 86 RX8 yX8_set wsX8_set) := goodIn_app (goodIn_of _ (by decide +kernel)) ggX2_takeIntoCase_X8_set
theorem dX2_takeIntoCase_0 : decode cX2_takeIntoCase 0 = .ok (.iconst 0, 1) := by decide +kernel
theorem dX2_takeIntoCase_1 : decode cX2_takeIntoCase 1 = .ok (.istore 4, 2) := by decide +kernel
theorem dX2_takeIntoCase_3 : decode cX2_takeIntoCase 3 = .ok (.iload 4, 2) := by decide +kernel
theorem dX2_takeIntoCase_5 : decode cX2_takeIntoCase 5 = .ok (.iload_n 3, 1) := by decide +kernel
theorem dX2_takeIntoCase_6 : decode cX2_takeIntoCase 6 = .ok (.if_icmp .gt 37, 3) := by decide +kernel
theorem dX2_takeIntoCase_9 : decode cX2_takeIntoCase 9 = .ok (.aload_n 0, 1) := by decide +kernel
theorem dX2_takeIntoCase_10 : decode cX2_takeIntoCase 10 = .ok (.getfield 23, 3) := by decide +kernel
theorem dX2_takeIntoCase_13 : decode cX2_takeIntoCase 13 = .ok (.iload 4, 2) := by decide +kernel
theorem dX2_takeIntoCase_15 : decode cX2_takeIntoCase 15 = .ok (.aload_n 1, 1) := by decide +kernel
theorem dX2_takeIntoCase_16 : decode cX2_takeIntoCase 16 = .ok (.iload_n 2, 1) := by decide +kernel
theorem dX2_takeIntoCase_17 : decode cX2_takeIntoCase 17 = .ok (.aload_n 0, 1) := by decide +kernel
theorem dX2_takeIntoCase_18 : decode cX2_takeIntoCase 18 = .ok (.iload 4, 2) := by decide +kernel
theorem dX2_takeIntoCase_20 : decode cX2_takeIntoCase 20 = .ok (.invokevirtual 105, 3) := by decide +kernel
theorem dX2_takeIntoCase_23 : decode cX2_takeIntoCase 23 = .ok (.invokevirtual 41, 3) := by decide +kernel
theorem dX2_takeIntoCase_26 : decode cX2_takeIntoCase 26 = .ok (.ifCond .eq 7, 3) := by decide +kernel
theorem dX2_takeIntoCase_29 : decode cX2_takeIntoCase 29 = .ok (.iconst 1, 1) := by decide +kernel
theorem dX2_takeIntoCase_30 : decode cX2_takeIntoCase 30 = .ok (.goto 4, 3) := by decide +kernel
theorem dX2_takeIntoCase_33 : decode cX2_takeIntoCase 33 = .ok (.iconst 0, 1) := by decide +kernel
theorem dX2_takeIntoCase_34 : decode cX2_takeIntoCase 34 = .ok (.invokevirtual 86, 3) := by decide +kernel
theorem dX2_takeIntoCase_37 : decode cX2_takeIntoCase 37 = .ok (.iinc 4 1, 3) := by decide +kernel
theorem dX2_takeIntoCase_40 : decode cX2_takeIntoCase 40 = .ok (.goto (-37), 3) := by decide +kernel
theorem dX2_takeIntoCase_43 : decode cX2_takeIntoCase 43 = .ok (.return_, 1) := by decide +kernel
set_option maxRecDepth 20000 in
theorem ggX2_takeOnPerson_X8_at_ : GoodIn wsX2_takeOnPerson wsX8_at_ := goodIn_r _ [7, 8, 9, 68, 69] rfl (by decide +kernel)
set_option maxRecDepth 20000 in
theorem gX2_takeOnPerson_X8_at_ : GoodIn wsX2_takeOnPerson (wsV RX2 72 RX8 yX8_at_ wsX8_at_) := goodIn_app (goodIn_of _ (by decide +kernel)) ggX2_takeOnPerson_X8_at_
set_option maxRecDepth 20000 in
theorem ggX2_takeOnPerson_X7_heatOn : GoodIn wsX2_takeOnPerson wsX7_heatOn := goodIn_r _ [14, 15, 16, 17, 18, 13, 19, 20, 21, 22, 23, 24, 6, 25, 9, 26, 27, 28, 29, 30, 31, 32, 33, 4, 5, 7, 8, 50, 51, 52, 53, 54, 55, 56, 57, 58, 59, 60, 61, 62, 63, 64, 68, 69] rfl (by decide +kernel)
set_option maxRecDepth 20000 in
theorem gX2_takeOnPerson_X7_heatOn : GoodIn wsX2_takeOnPerson (wsV RX2 111 RX7 yX7_heatOn wsX7_heatOn) := goodIn_app (goodIn_of _ (by decide +kernel)) ggX2_takeOnPerson_X7_heatOn
set_option maxRecDepth 20000 in
theorem ggX2_takeOnPerson_X0_ofKind : GoodIn wsX2_takeOnPerson wsX0_ofKind := goodIn_r _ [37, 31, 32, 33, 4, 5, 6, 7, 8, 9, 53, 54, 55, 56, 57, 58, 59, 60, 61, 62, 63, 64, 68, 69] rfl (by decide +kernel)
set_option maxRecDepth 20000 in
theorem gX2_takeOnPerson_X0_ofKind : GoodIn wsX2_takeOnPerson (wsV RX2 114 RX0 yX0_ofKind wsX0_ofKind) := goodIn_app (goodIn_of _ (by decide +kernel)) ggX2_takeOnPerson_X0_ofKind
set_option maxRecDepth 20000 in
theorem ggX2_takeOnPerson_X2_thingsOf : GoodIn wsX2_takeOnPerson wsX2_thingsOf := goodIn_r _ [42, 43, 44, 23, 24, 6, 25, 9, 65, 66, 67, 68, 69] rfl (by decide +kernel)
set_option maxRecDepth 20000 in
theorem gX2_takeOnPerson_X2_thingsOf : GoodIn wsX2_takeOnPerson (wsV RX2 105 RX2 yX2_thingsOf wsX2_thingsOf) := goodIn_app (goodIn_of _ (by decide +kernel)) ggX2_takeOnPerson_X2_thingsOf
set_option maxRecDepth 20000 in
theorem ggX2_takeOnPerson_X0_sumOf : GoodIn wsX2_takeOnPerson wsX0_sumOf := goodIn_r _ [30, 31, 32, 33, 4, 5, 6, 7, 8, 9, 53, 54, 55, 56, 57, 58, 59, 60, 61, 62, 63, 64, 68, 69] rfl (by decide +kernel)
set_option maxRecDepth 20000 in
theorem gX2_takeOnPerson_X0_sumOf : GoodIn wsX2_takeOnPerson (wsV RX2 117 RX0 yX0_sumOf wsX0_sumOf) := goodIn_app (goodIn_of _ (by decide +kernel)) ggX2_takeOnPerson_X0_sumOf
set_option maxRecDepth 20000 in
theorem ggX2_takeOnPerson_X8_set : GoodIn wsX2_takeOnPerson wsX8_set := goodIn_r _ [49, 9, 68, 69] rfl (by decide +kernel)
set_option maxRecDepth 20000 in
theorem gX2_takeOnPerson_X8_set : GoodIn wsX2_takeOnPerson (wsV RX2 86 RX8 yX8_set wsX8_set) := goodIn_app (goodIn_of _ (by decide +kernel)) ggX2_takeOnPerson_X8_set
theorem dX2_takeOnPerson_0 : decode cX2_takeOnPerson 0 = .ok (.aload_n 1, 1) := by decide +kernel
theorem dX2_takeOnPerson_1 : decode cX2_takeOnPerson 1 = .ok (.getfield 37, 3) := by decide +kernel
theorem dX2_takeOnPerson_4 : decode cX2_takeOnPerson 4 = .ok (.getfield 108, 3) := by decide +kernel
theorem dX2_takeOnPerson_7 : decode cX2_takeOnPerson 7 = .ok (.iload_n 2, 1) := by decide +kernel
theorem dX2_takeOnPerson_8 : decode cX2_takeOnPerson 8 = .ok (.iconst 2, 1) := by decide +kernel
theorem dX2_takeOnPerson_9 : decode cX2_takeOnPerson 9 = .ok (.invokevirtual 72, 3) := by decide +kernel
theorem dX2_takeOnPerson_12 : decode cX2_takeOnPerson 12 = .ok (.aload_n 1, 1) := by decide +kernel
theorem dX2_takeOnPerson_13 : decode cX2_takeOnPerson 13 = .ok (.iload_n 2, 1) := by decide +kernel
theorem dX2_takeOnPerson_14 : decode cX2_takeOnPerson 14 = .ok (.invokevirtual 111, 3) := by decide +kernel
theorem dX2_takeOnPerson_17 : decode cX2_takeOnPerson 17 = .ok (.isub, 1) := by decide +kernel
theorem dX2_takeOnPerson_18 : decode cX2_takeOnPerson 18 = .ok (.istore 4, 2) := by decide +kernel
theorem dX2_takeOnPerson_20 : decode cX2_takeOnPerson 20 = .ok (.aload_n 1, 1) := by decide +kernel
theorem dX2_takeOnPerson_21 : decode cX2_takeOnPerson 21 = .ok (.getfield 37, 3) := by decide +kernel
theorem dX2_takeOnPerson_24 : decode cX2_takeOnPerson 24 = .ok (.iconst 1, 1) := by decide +kernel
theorem dX2_takeOnPerson_25 : decode cX2_takeOnPerson 25 = .ok (.invokevirtual 114, 3) := by decide +kernel
theorem dX2_takeOnPerson_28 : decode cX2_takeOnPerson 28 = .ok (.istore 5, 2) := by decide +kernel
theorem dX2_takeOnPerson_30 : decode cX2_takeOnPerson 30 = .ok (.iconst 0, 1) := by decide +kernel
theorem dX2_takeOnPerson_31 : decode cX2_takeOnPerson 31 = .ok (.istore 6, 2) := by decide +kernel
theorem dX2_takeOnPerson_33 : decode cX2_takeOnPerson 33 = .ok (.iload 6, 2) := by decide +kernel
theorem dX2_takeOnPerson_35 : decode cX2_takeOnPerson 35 = .ok (.iload_n 3, 1) := by decide +kernel
theorem dX2_takeOnPerson_36 : decode cX2_takeOnPerson 36 = .ok (.if_icmp .gt 69, 3) := by decide +kernel
theorem dX2_takeOnPerson_39 : decode cX2_takeOnPerson 39 = .ok (.aload_n 0, 1) := by decide +kernel
theorem dX2_takeOnPerson_40 : decode cX2_takeOnPerson 40 = .ok (.iload 6, 2) := by decide +kernel
theorem dX2_takeOnPerson_42 : decode cX2_takeOnPerson 42 = .ok (.invokevirtual 105, 3) := by decide +kernel
theorem dX2_takeOnPerson_45 : decode cX2_takeOnPerson 45 = .ok (.istore 7, 2) := by decide +kernel
theorem dX2_takeOnPerson_47 : decode cX2_takeOnPerson 47 = .ok (.iload 7, 2) := by decide +kernel
theorem dX2_takeOnPerson_49 : decode cX2_takeOnPerson 49 = .ok (.iload 5, 2) := by decide +kernel
theorem dX2_takeOnPerson_51 : decode cX2_takeOnPerson 51 = .ok (.iconst (-1), 1) := by decide +kernel
theorem dX2_takeOnPerson_52 : decode cX2_takeOnPerson 52 = .ok (.ixor, 1) := by decide +kernel
theorem dX2_takeOnPerson_53 : decode cX2_takeOnPerson 53 = .ok (.iand, 1) := by decide +kernel
theorem dX2_takeOnPerson_54 : decode cX2_takeOnPerson 54 = .ok (.ifCond .ne 23, 3) := by decide +kernel
theorem dX2_takeOnPerson_57 : decode cX2_takeOnPerson 57 = .ok (.aload_n 1, 1) := by decide +kernel
theorem dX2_takeOnPerson_58 : decode cX2_takeOnPerson 58 = .ok (.getfield 37, 3) := by decide +kernel
theorem dX2_takeOnPerson_61 : decode cX2_takeOnPerson 61 = .ok (.iload 7, 2) := by decide +kernel
theorem dX2_takeOnPerson_63 : decode cX2_takeOnPerson 63 = .ok (.bipush 6, 2) := by decide +kernel
theorem dX2_takeOnPerson_65 : decode cX2_takeOnPerson 65 = .ok (.invokevirtual 117, 3) := by decide +kernel
theorem dX2_takeOnPerson_68 : decode cX2_takeOnPerson 68 = .ok (.iload 4, 2) := by decide +kernel
theorem dX2_takeOnPerson_70 : decode cX2_takeOnPerson 70 = .ok (.if_icmp .gt 7, 3) := by decide +kernel
theorem dX2_takeOnPerson_73 : decode cX2_takeOnPerson 73 = .ok (.iconst 1, 1) := by decide +kernel
theorem dX2_takeOnPerson_74 : decode cX2_takeOnPerson 74 = .ok (.goto 4, 3) := by decide +kernel
theorem dX2_takeOnPerson_77 : decode cX2_takeOnPerson 77 = .ok (.iconst 0, 1) := by decide +kernel
theorem dX2_takeOnPerson_78 : decode cX2_takeOnPerson 78 = .ok (.istore 8, 2) := by decide +kernel
theorem dX2_takeOnPerson_80 : decode cX2_takeOnPerson 80 = .ok (.aload_n 0, 1) := by decide +kernel
theorem dX2_takeOnPerson_81 : decode cX2_takeOnPerson 81 = .ok (.getfield 23, 3) := by decide +kernel
theorem dX2_takeOnPerson_84 : decode cX2_takeOnPerson 84 = .ok (.iload 6, 2) := by decide +kernel
theorem dX2_takeOnPerson_86 : decode cX2_takeOnPerson 86 = .ok (.iload 8, 2) := by decide +kernel
theorem dX2_takeOnPerson_88 : decode cX2_takeOnPerson 88 = .ok (.ifCond .eq 7, 3) := by decide +kernel
theorem dX2_takeOnPerson_91 : decode cX2_takeOnPerson 91 = .ok (.iconst 1, 1) := by decide +kernel
theorem dX2_takeOnPerson_92 : decode cX2_takeOnPerson 92 = .ok (.goto 4, 3) := by decide +kernel
theorem dX2_takeOnPerson_95 : decode cX2_takeOnPerson 95 = .ok (.iconst 0, 1) := by decide +kernel
theorem dX2_takeOnPerson_96 : decode cX2_takeOnPerson 96 = .ok (.invokevirtual 86, 3) := by decide +kernel
theorem dX2_takeOnPerson_99 : decode cX2_takeOnPerson 99 = .ok (.iinc 6 1, 3) := by decide +kernel
theorem dX2_takeOnPerson_102 : decode cX2_takeOnPerson 102 = .ok (.goto (-69), 3) := by decide +kernel
theorem dX2_takeOnPerson_105 : decode cX2_takeOnPerson 105 = .ok (.return_, 1) := by decide +kernel
set_option maxRecDepth 20000 in
theorem ggX2_widen_X8_at : GoodIn wsX2_widen wsX8_at := goodIn_r _ [7, 8, 16, 17] rfl (by decide +kernel)
set_option maxRecDepth 20000 in
theorem gX2_widen_X8_at : GoodIn wsX2_widen (wsV RX2 103 RX8 yX8_at wsX8_at) := goodIn_app (goodIn_of _ (by decide +kernel)) ggX2_widen_X8_at
set_option maxRecDepth 20000 in
theorem ggX2_widen_X8_set : GoodIn wsX2_widen wsX8_set := goodIn_r _ [12, 8, 16, 17] rfl (by decide +kernel)
set_option maxRecDepth 20000 in
theorem gX2_widen_X8_set : GoodIn wsX2_widen (wsV RX2 86 RX8 yX8_set wsX8_set) := goodIn_app (goodIn_of _ (by decide +kernel)) ggX2_widen_X8_set
theorem dX2_widen_0 : decode cX2_widen 0 = .ok (.iload_n 1, 1) := by decide +kernel
theorem dX2_widen_1 : decode cX2_widen 1 = .ok (.istore_n 2, 1) := by decide +kernel
theorem dX2_widen_2 : decode cX2_widen 2 = .ok (.iload_n 2, 1) := by decide +kernel
theorem dX2_widen_3 : decode cX2_widen 3 = .ok (.ifCond .le 68, 3) := by decide +kernel
theorem dX2_widen_6 : decode cX2_widen 6 = .ok (.iload_n 2, 1) := by decide +kernel
theorem dX2_widen_7 : decode cX2_widen 7 = .ok (.istore_n 3, 1) := by decide +kernel
theorem dX2_widen_8 : decode cX2_widen 8 = .ok (.iload_n 3, 1) := by decide +kernel
theorem dX2_widen_9 : decode cX2_widen 9 = .ok (.ifCond .le 56, 3) := by decide +kernel
theorem dX2_widen_12 : decode cX2_widen 12 = .ok (.aload_n 0, 1) := by decide +kernel
theorem dX2_widen_13 : decode cX2_widen 13 = .ok (.getfield 20, 3) := by decide +kernel
theorem dX2_widen_16 : decode cX2_widen 16 = .ok (.iload_n 2, 1) := by decide +kernel
theorem dX2_widen_17 : decode cX2_widen 17 = .ok (.invokevirtual 103, 3) := by decide +kernel
theorem dX2_widen_20 : decode cX2_widen 20 = .ok (.ifCond .ne 45, 3) := by decide +kernel
theorem dX2_widen_23 : decode cX2_widen 23 = .ok (.aload_n 0, 1) := by decide +kernel
theorem dX2_widen_24 : decode cX2_widen 24 = .ok (.getfield 23, 3) := by decide +kernel
theorem dX2_widen_27 : decode cX2_widen 27 = .ok (.iload_n 3, 1) := by decide +kernel
theorem dX2_widen_28 : decode cX2_widen 28 = .ok (.invokevirtual 103, 3) := by decide +kernel
theorem dX2_widen_31 : decode cX2_widen 31 = .ok (.ifCond .eq 25, 3) := by decide +kernel
theorem dX2_widen_34 : decode cX2_widen 34 = .ok (.aload_n 0, 1) := by decide +kernel
theorem dX2_widen_35 : decode cX2_widen 35 = .ok (.getfield 20, 3) := by decide +kernel
theorem dX2_widen_38 : decode cX2_widen 38 = .ok (.iload_n 2, 1) := by decide +kernel
theorem dX2_widen_39 : decode cX2_widen 39 = .ok (.iload_n 3, 1) := by decide +kernel
theorem dX2_widen_40 : decode cX2_widen 40 = .ok (.ixor, 1) := by decide +kernel
theorem dX2_widen_41 : decode cX2_widen 41 = .ok (.invokevirtual 103, 3) := by decide +kernel
theorem dX2_widen_44 : decode cX2_widen 44 = .ok (.ifCond .eq 12, 3) := by decide +kernel
theorem dX2_widen_47 : decode cX2_widen 47 = .ok (.aload_n 0, 1) := by decide +kernel
theorem dX2_widen_48 : decode cX2_widen 48 = .ok (.getfield 20, 3) := by decide +kernel
theorem dX2_widen_51 : decode cX2_widen 51 = .ok (.iload_n 2, 1) := by decide +kernel
theorem dX2_widen_52 : decode cX2_widen 52 = .ok (.iconst 1, 1) := by decide +kernel
theorem dX2_widen_53 : decode cX2_widen 53 = .ok (.invokevirtual 86, 3) := by decide +kernel
theorem dX2_widen_56 : decode cX2_widen 56 = .ok (.iload_n 3, 1) := by decide +kernel
theorem dX2_widen_57 : decode cX2_widen 57 = .ok (.iconst 1, 1) := by decide +kernel
theorem dX2_widen_58 : decode cX2_widen 58 = .ok (.isub, 1) := by decide +kernel
theorem dX2_widen_59 : decode cX2_widen 59 = .ok (.iload_n 2, 1) := by decide +kernel
theorem dX2_widen_60 : decode cX2_widen 60 = .ok (.iand, 1) := by decide +kernel
theorem dX2_widen_61 : decode cX2_widen 61 = .ok (.istore_n 3, 1) := by decide +kernel
theorem dX2_widen_62 : decode cX2_widen 62 = .ok (.goto (-54), 3) := by decide +kernel
theorem dX2_widen_65 : decode cX2_widen 65 = .ok (.iinc 2 (-1), 3) := by decide +kernel
theorem dX2_widen_68 : decode cX2_widen 68 = .ok (.goto (-66), 3) := by decide +kernel
theorem dX2_widen_71 : decode cX2_widen 71 = .ok (.return_, 1) := by decide +kernel
