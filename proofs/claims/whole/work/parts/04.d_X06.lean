theorem dX6_init_0 : decode cX6_init 0 = .ok (.aload_n 0, 1) := by decide +kernel
theorem dX6_init_1 : decode cX6_init 1 = .ok (.invokespecial 3, 3) := by decide +kernel
theorem dX6_init_4 : decode cX6_init 4 = .ok (.aload_n 0, 1) := by decide +kernel
theorem dX6_init_5 : decode cX6_init 5 = .ok (.sipush 217, 3) := by decide +kernel
theorem dX6_init_8 : decode cX6_init 8 = .ok (.newarray .long, 2) := by decide +kernel
theorem dX6_init_10 : decode cX6_init 10 = .ok (.putfield 9, 3) := by decide +kernel
theorem dX6_init_13 : decode cX6_init 13 = .ok (.aload_n 0, 1) := by decide +kernel
theorem dX6_init_14 : decode cX6_init 14 = .ok (.aload_n 1, 1) := by decide +kernel
theorem dX6_init_15 : decode cX6_init 15 = .ok (.putfield 15, 3) := by decide +kernel
theorem dX6_init_18 : decode cX6_init 18 = .ok (.return_, 1) := by decide +kernel
set_option maxRecDepth 20000 in
theorem ggX6_take_X7_thingsAt : GoodIn wsX6_take wsX7_thingsAt := goodIn_r _ [11, 12, 13, 14, 15, 16, 17, 18, 19, 20, 34, 35, 36, 46, 47, 48, 49, 50, 51, 52, 53, 54, 55, 56, 57, 58, 59] rfl (by decide +kernel)
set_option maxRecDepth 20000 in
theorem gX6_take_X7_thingsAt : GoodIn wsX6_take (wsV RX6 22 RX7 yX7_thingsAt wsX7_thingsAt) := goodIn_app (goodIn_of _ (by decide +kernel)) ggX6_take_X7_thingsAt
set_option maxRecDepth 20000 in
theorem ggX6_take_X8_at_ : GoodIn wsX6_take wsX8_at_ := goodIn_r _ [24, 25, 20, 58, 59] rfl (by decide +kernel)
set_option maxRecDepth 20000 in
theorem gX6_take_X8_at_ : GoodIn wsX6_take (wsV RX6 36 RX8 yX8_at_ wsX8_at_) := goodIn_app (goodIn_of _ (by decide +kernel)) ggX6_take_X8_at_
set_option maxRecDepth 20000 in
theorem ggX6_take_X0_sumOf : GoodIn wsX6_take wsX0_sumOf := goodIn_r _ [30, 31, 32, 33, 22, 23, 18, 24, 25, 20, 46, 47, 48, 49, 50, 51, 52, 53, 54, 55, 56, 57, 58, 59] rfl (by decide +kernel)
set_option maxRecDepth 20000 in
theorem gX6_take_X0_sumOf : GoodIn wsX6_take (wsV RX6 45 RX0 yX0_sumOf wsX0_sumOf) := goodIn_app (goodIn_of _ (by decide +kernel)) ggX6_take_X0_sumOf
theorem dX6_take_0 : decode cX6_take 0 = .ok (.aload_n 0, 1) := by decide +kernel
theorem dX6_take_1 : decode cX6_take 1 = .ok (.aload_n 1, 1) := by decide +kernel
theorem dX6_take_2 : decode cX6_take 2 = .ok (.getfield 19, 3) := by decide +kernel
theorem dX6_take_5 : decode cX6_take 5 = .ok (.putfield 15, 3) := by decide +kernel
theorem dX6_take_8 : decode cX6_take 8 = .ok (.aload_n 0, 1) := by decide +kernel
theorem dX6_take_9 : decode cX6_take 9 = .ok (.aload_n 1, 1) := by decide +kernel
theorem dX6_take_10 : decode cX6_take 10 = .ok (.iload_n 2, 1) := by decide +kernel
theorem dX6_take_11 : decode cX6_take 11 = .ok (.invokevirtual 22, 3) := by decide +kernel
theorem dX6_take_14 : decode cX6_take 14 = .ok (.putfield 26, 3) := by decide +kernel
theorem dX6_take_17 : decode cX6_take 17 = .ok (.aload_n 0, 1) := by decide +kernel
theorem dX6_take_18 : decode cX6_take 18 = .ok (.aload_n 0, 1) := by decide +kernel
theorem dX6_take_19 : decode cX6_take 19 = .ok (.getfield 15, 3) := by decide +kernel
theorem dX6_take_22 : decode cX6_take 22 = .ok (.getfield 30, 3) := by decide +kernel
theorem dX6_take_25 : decode cX6_take 25 = .ok (.iload_n 2, 1) := by decide +kernel
theorem dX6_take_26 : decode cX6_take 26 = .ok (.iconst 1, 1) := by decide +kernel
theorem dX6_take_27 : decode cX6_take 27 = .ok (.invokevirtual 36, 3) := by decide +kernel
theorem dX6_take_30 : decode cX6_take 30 = .ok (.putfield 42, 3) := by decide +kernel
theorem dX6_take_33 : decode cX6_take 33 = .ok (.aload_n 0, 1) := by decide +kernel
theorem dX6_take_34 : decode cX6_take 34 = .ok (.getfield 15, 3) := by decide +kernel
theorem dX6_take_37 : decode cX6_take 37 = .ok (.aload_n 0, 1) := by decide +kernel
theorem dX6_take_38 : decode cX6_take 38 = .ok (.getfield 26, 3) := by decide +kernel
theorem dX6_take_41 : decode cX6_take 41 = .ok (.iconst 1, 1) := by decide +kernel
theorem dX6_take_42 : decode cX6_take 42 = .ok (.invokevirtual 45, 3) := by decide +kernel
theorem dX6_take_45 : decode cX6_take 45 = .ok (.istore_n 3, 1) := by decide +kernel
theorem dX6_take_46 : decode cX6_take 46 = .ok (.aload_n 0, 1) := by decide +kernel
theorem dX6_take_47 : decode cX6_take 47 = .ok (.getfield 15, 3) := by decide +kernel
theorem dX6_take_50 : decode cX6_take 50 = .ok (.aload_n 0, 1) := by decide +kernel
theorem dX6_take_51 : decode cX6_take 51 = .ok (.getfield 26, 3) := by decide +kernel
theorem dX6_take_54 : decode cX6_take 54 = .ok (.iconst 2, 1) := by decide +kernel
theorem dX6_take_55 : decode cX6_take 55 = .ok (.invokevirtual 45, 3) := by decide +kernel
theorem dX6_take_58 : decode cX6_take 58 = .ok (.istore 4, 2) := by decide +kernel
theorem dX6_take_60 : decode cX6_take 60 = .ok (.aload_n 0, 1) := by decide +kernel
theorem dX6_take_61 : decode cX6_take 61 = .ok (.iload_n 3, 1) := by decide +kernel
theorem dX6_take_62 : decode cX6_take 62 = .ok (.iload 4, 2) := by decide +kernel
theorem dX6_take_64 : decode cX6_take 64 = .ok (.isub, 1) := by decide +kernel
theorem dX6_take_65 : decode cX6_take 65 = .ok (.putfield 48, 3) := by decide +kernel
theorem dX6_take_68 : decode cX6_take 68 = .ok (.aload_n 0, 1) := by decide +kernel
theorem dX6_take_69 : decode cX6_take 69 = .ok (.iload_n 3, 1) := by decide +kernel
theorem dX6_take_70 : decode cX6_take 70 = .ok (.iload 4, 2) := by decide +kernel
theorem dX6_take_72 : decode cX6_take 72 = .ok (.iadd, 1) := by decide +kernel
theorem dX6_take_73 : decode cX6_take 73 = .ok (.putfield 51, 3) := by decide +kernel
theorem dX6_take_76 : decode cX6_take 76 = .ok (.return_, 1) := by decide +kernel
theorem dX6_known_0 : decode cX6_known 0 = .ok (.aload_n 0, 1) := by decide +kernel
theorem dX6_known_1 : decode cX6_known 1 = .ok (.getfield 51, 3) := by decide +kernel
theorem dX6_known_4 : decode cX6_known 4 = .ok (.aload_n 0, 1) := by decide +kernel
theorem dX6_known_5 : decode cX6_known 5 = .ok (.getfield 42, 3) := by decide +kernel
theorem dX6_known_8 : decode cX6_known 8 = .ok (.if_icmp .gt 5, 3) := by decide +kernel
theorem dX6_known_11 : decode cX6_known 11 = .ok (.iconst 1, 1) := by decide +kernel
theorem dX6_known_12 : decode cX6_known 12 = .ok (.ireturn, 1) := by decide +kernel
theorem dX6_known_13 : decode cX6_known 13 = .ok (.aload_n 0, 1) := by decide +kernel
theorem dX6_known_14 : decode cX6_known 14 = .ok (.getfield 48, 3) := by decide +kernel
theorem dX6_known_17 : decode cX6_known 17 = .ok (.aload_n 0, 1) := by decide +kernel
theorem dX6_known_18 : decode cX6_known 18 = .ok (.getfield 42, 3) := by decide +kernel
theorem dX6_known_21 : decode cX6_known 21 = .ok (.if_icmp .le 7, 3) := by decide +kernel
theorem dX6_known_24 : decode cX6_known 24 = .ok (.iconst 0, 1) := by decide +kernel
theorem dX6_known_25 : decode cX6_known 25 = .ok (.goto 4, 3) := by decide +kernel
theorem dX6_known_28 : decode cX6_known 28 = .ok (.iconst 2, 1) := by decide +kernel
theorem dX6_known_29 : decode cX6_known 29 = .ok (.ireturn, 1) := by decide +kernel
set_option maxRecDepth 20000 in
theorem ggX6_findChance_X6_countWays : GoodIn wsX6_findChance wsX6_countWays := goodIn_r _ [10, 3, 11, 12, 13, 14, 15, 16, 17, 18, 19, 20, 21, 22, 23, 24, 9, 25, 26, 27, 28, 29, 34, 35, 36, 37, 38, 39, 40, 41, 42, 43, 44, 45, 46, 47, 48, 49, 50, 51, 52, 53, 54, 55, 56] rfl (by decide +kernel)
set_option maxRecDepth 20000 in
theorem gX6_findChance_X6_countWays : GoodIn wsX6_findChance (wsV RX6 54 RX6 yX6_countWays wsX6_countWays) := goodIn_app (goodIn_of _ (by decide +kernel)) ggX6_findChance_X6_countWays
set_option maxRecDepth 20000 in
theorem ggX6_findChance_X6_reduce : GoodIn wsX6_findChance wsX6_reduce := goodIn_r _ [33, 1, 2, 34, 35, 36, 37, 38, 39, 40, 41, 42] rfl (by decide +kernel)
set_option maxRecDepth 20000 in
theorem gX6_findChance_X6_reduce : GoodIn wsX6_findChance (wsV RX6 64 RX6 yX6_reduce wsX6_reduce) := goodIn_app (goodIn_of _ (by decide +kernel)) ggX6_findChance_X6_reduce
theorem dX6_findChance_0 : decode cX6_findChance 0 = .ok (.aload_n 0, 1) := by decide +kernel
theorem dX6_findChance_1 : decode cX6_findChance 1 = .ok (.invokevirtual 54, 3) := by decide +kernel
theorem dX6_findChance_4 : decode cX6_findChance 4 = .ok (.aload_n 0, 1) := by decide +kernel
theorem dX6_findChance_5 : decode cX6_findChance 5 = .ok (.lconst 0, 1) := by decide +kernel
theorem dX6_findChance_6 : decode cX6_findChance 6 = .ok (.putfield 57, 3) := by decide +kernel
theorem dX6_findChance_9 : decode cX6_findChance 9 = .ok (.aload_n 0, 1) := by decide +kernel
theorem dX6_findChance_10 : decode cX6_findChance 10 = .ok (.lconst 0, 1) := by decide +kernel
theorem dX6_findChance_11 : decode cX6_findChance 11 = .ok (.putfield 61, 3) := by decide +kernel
theorem dX6_findChance_14 : decode cX6_findChance 14 = .ok (.iconst 0, 1) := by decide +kernel
theorem dX6_findChance_15 : decode cX6_findChance 15 = .ok (.istore_n 1, 1) := by decide +kernel
theorem dX6_findChance_16 : decode cX6_findChance 16 = .ok (.iload_n 1, 1) := by decide +kernel
theorem dX6_findChance_17 : decode cX6_findChance 17 = .ok (.aload_n 0, 1) := by decide +kernel
theorem dX6_findChance_18 : decode cX6_findChance 18 = .ok (.getfield 9, 3) := by decide +kernel
theorem dX6_findChance_21 : decode cX6_findChance 21 = .ok (.arraylength, 1) := by decide +kernel
theorem dX6_findChance_22 : decode cX6_findChance 22 = .ok (.if_icmp .ge 56, 3) := by decide +kernel
theorem dX6_findChance_25 : decode cX6_findChance 25 = .ok (.aload_n 0, 1) := by decide +kernel
theorem dX6_findChance_26 : decode cX6_findChance 26 = .ok (.dup, 1) := by decide +kernel
theorem dX6_findChance_27 : decode cX6_findChance 27 = .ok (.getfield 61, 3) := by decide +kernel
theorem dX6_findChance_30 : decode cX6_findChance 30 = .ok (.aload_n 0, 1) := by decide +kernel
theorem dX6_findChance_31 : decode cX6_findChance 31 = .ok (.getfield 9, 3) := by decide +kernel
theorem dX6_findChance_34 : decode cX6_findChance 34 = .ok (.iload_n 1, 1) := by decide +kernel
theorem dX6_findChance_35 : decode cX6_findChance 35 = .ok (.laload, 1) := by decide +kernel
theorem dX6_findChance_36 : decode cX6_findChance 36 = .ok (.ladd, 1) := by decide +kernel
theorem dX6_findChance_37 : decode cX6_findChance 37 = .ok (.putfield 61, 3) := by decide +kernel
theorem dX6_findChance_40 : decode cX6_findChance 40 = .ok (.aload_n 0, 1) := by decide +kernel
theorem dX6_findChance_41 : decode cX6_findChance 41 = .ok (.dup, 1) := by decide +kernel
theorem dX6_findChance_42 : decode cX6_findChance 42 = .ok (.getfield 57, 3) := by decide +kernel
theorem dX6_findChance_45 : decode cX6_findChance 45 = .ok (.aload_n 0, 1) := by decide +kernel
theorem dX6_findChance_46 : decode cX6_findChance 46 = .ok (.getfield 48, 3) := by decide +kernel
theorem dX6_findChance_49 : decode cX6_findChance 49 = .ok (.iload_n 1, 1) := by decide +kernel
theorem dX6_findChance_50 : decode cX6_findChance 50 = .ok (.iadd, 1) := by decide +kernel
theorem dX6_findChance_51 : decode cX6_findChance 51 = .ok (.aload_n 0, 1) := by decide +kernel
theorem dX6_findChance_52 : decode cX6_findChance 52 = .ok (.getfield 42, 3) := by decide +kernel
theorem dX6_findChance_55 : decode cX6_findChance 55 = .ok (.if_icmp .gt 12, 3) := by decide +kernel
theorem dX6_findChance_58 : decode cX6_findChance 58 = .ok (.aload_n 0, 1) := by decide +kernel
theorem dX6_findChance_59 : decode cX6_findChance 59 = .ok (.getfield 9, 3) := by decide +kernel
theorem dX6_findChance_62 : decode cX6_findChance 62 = .ok (.iload_n 1, 1) := by decide +kernel
theorem dX6_findChance_63 : decode cX6_findChance 63 = .ok (.laload, 1) := by decide +kernel
theorem dX6_findChance_64 : decode cX6_findChance 64 = .ok (.goto 4, 3) := by decide +kernel
theorem dX6_findChance_67 : decode cX6_findChance 67 = .ok (.lconst 0, 1) := by decide +kernel
theorem dX6_findChance_68 : decode cX6_findChance 68 = .ok (.ladd, 1) := by decide +kernel
theorem dX6_findChance_69 : decode cX6_findChance 69 = .ok (.putfield 57, 3) := by decide +kernel
theorem dX6_findChance_72 : decode cX6_findChance 72 = .ok (.iinc 1 1, 3) := by decide +kernel
theorem dX6_findChance_75 : decode cX6_findChance 75 = .ok (.goto (-59), 3) := by decide +kernel
theorem dX6_findChance_78 : decode cX6_findChance 78 = .ok (.aload_n 0, 1) := by decide +kernel
theorem dX6_findChance_79 : decode cX6_findChance 79 = .ok (.invokevirtual 64, 3) := by decide +kernel
theorem dX6_findChance_82 : decode cX6_findChance 82 = .ok (.return_, 1) := by decide +kernel
set_option maxRecDepth 20000 in
theorem ggX6_countWays_X8_at_ : GoodIn wsX6_countWays wsX8_at_ := goodIn_r _ [10, 11, 12, 43, 44] rfl (by decide +kernel)
set_option maxRecDepth 20000 in
theorem gX6_countWays_X8_at_ : GoodIn wsX6_countWays (wsV RX6 36 RX8 yX8_at_ wsX8_at_) := goodIn_app (goodIn_of _ (by decide +kernel)) ggX6_countWays_X8_at_
set_option maxRecDepth 20000 in
theorem ggX6_countWays_X6_addUnsure : GoodIn wsX6_countWays wsX6_addUnsure := goodIn_r _ [17, 1, 18, 19, 20, 21, 22, 23, 24, 25, 26, 27, 28, 29, 30] rfl (by decide +kernel)
set_option maxRecDepth 20000 in
theorem gX6_countWays_X6_addUnsure : GoodIn wsX6_countWays (wsV RX6 72 RX6 yX6_addUnsure wsX6_addUnsure) := goodIn_app (goodIn_of _ (by decide +kernel)) ggX6_countWays_X6_addUnsure
theorem dX6_countWays_0 : decode cX6_countWays 0 = .ok (.iconst 0, 1) := by decide +kernel
theorem dX6_countWays_1 : decode cX6_countWays 1 = .ok (.istore_n 1, 1) := by decide +kernel
theorem dX6_countWays_2 : decode cX6_countWays 2 = .ok (.iload_n 1, 1) := by decide +kernel
theorem dX6_countWays_3 : decode cX6_countWays 3 = .ok (.aload_n 0, 1) := by decide +kernel
theorem dX6_countWays_4 : decode cX6_countWays 4 = .ok (.getfield 9, 3) := by decide +kernel
theorem dX6_countWays_7 : decode cX6_countWays 7 = .ok (.arraylength, 1) := by decide +kernel
theorem dX6_countWays_8 : decode cX6_countWays 8 = .ok (.if_icmp .ge 24, 3) := by decide +kernel
theorem dX6_countWays_11 : decode cX6_countWays 11 = .ok (.aload_n 0, 1) := by decide +kernel
theorem dX6_countWays_12 : decode cX6_countWays 12 = .ok (.getfield 9, 3) := by decide +kernel
theorem dX6_countWays_15 : decode cX6_countWays 15 = .ok (.iload_n 1, 1) := by decide +kernel
theorem dX6_countWays_16 : decode cX6_countWays 16 = .ok (.iload_n 1, 1) := by decide +kernel
theorem dX6_countWays_17 : decode cX6_countWays 17 = .ok (.ifCond .ne 7, 3) := by decide +kernel
theorem dX6_countWays_20 : decode cX6_countWays 20 = .ok (.lconst 1, 1) := by decide +kernel
theorem dX6_countWays_21 : decode cX6_countWays 21 = .ok (.goto 4, 3) := by decide +kernel
theorem dX6_countWays_24 : decode cX6_countWays 24 = .ok (.lconst 0, 1) := by decide +kernel
theorem dX6_countWays_25 : decode cX6_countWays 25 = .ok (.lastore, 1) := by decide +kernel
theorem dX6_countWays_26 : decode cX6_countWays 26 = .ok (.iinc 1 1, 3) := by decide +kernel
theorem dX6_countWays_29 : decode cX6_countWays 29 = .ok (.goto (-27), 3) := by decide +kernel
theorem dX6_countWays_32 : decode cX6_countWays 32 = .ok (.iconst 0, 1) := by decide +kernel
theorem dX6_countWays_33 : decode cX6_countWays 33 = .ok (.istore_n 1, 1) := by decide +kernel
theorem dX6_countWays_34 : decode cX6_countWays 34 = .ok (.iload_n 1, 1) := by decide +kernel
theorem dX6_countWays_35 : decode cX6_countWays 35 = .ok (.aload_n 0, 1) := by decide +kernel
theorem dX6_countWays_36 : decode cX6_countWays 36 = .ok (.getfield 15, 3) := by decide +kernel
theorem dX6_countWays_39 : decode cX6_countWays 39 = .ok (.getfield 67, 3) := by decide +kernel
theorem dX6_countWays_42 : decode cX6_countWays 42 = .ok (.if_icmp .ge 38, 3) := by decide +kernel
theorem dX6_countWays_45 : decode cX6_countWays 45 = .ok (.aload_n 0, 1) := by decide +kernel
theorem dX6_countWays_46 : decode cX6_countWays 46 = .ok (.getfield 26, 3) := by decide +kernel
theorem dX6_countWays_49 : decode cX6_countWays 49 = .ok (.iload_n 1, 1) := by decide +kernel
theorem dX6_countWays_50 : decode cX6_countWays 50 = .ok (.ishr, 1) := by decide +kernel
theorem dX6_countWays_51 : decode cX6_countWays 51 = .ok (.iconst 1, 1) := by decide +kernel
theorem dX6_countWays_52 : decode cX6_countWays 52 = .ok (.iand, 1) := by decide +kernel
theorem dX6_countWays_53 : decode cX6_countWays 53 = .ok (.ifCond .eq 21, 3) := by decide +kernel
theorem dX6_countWays_56 : decode cX6_countWays 56 = .ok (.aload_n 0, 1) := by decide +kernel
theorem dX6_countWays_57 : decode cX6_countWays 57 = .ok (.iconst 2, 1) := by decide +kernel
theorem dX6_countWays_58 : decode cX6_countWays 58 = .ok (.aload_n 0, 1) := by decide +kernel
theorem dX6_countWays_59 : decode cX6_countWays 59 = .ok (.getfield 15, 3) := by decide +kernel
theorem dX6_countWays_62 : decode cX6_countWays 62 = .ok (.getfield 70, 3) := by decide +kernel
theorem dX6_countWays_65 : decode cX6_countWays 65 = .ok (.iload_n 1, 1) := by decide +kernel
theorem dX6_countWays_66 : decode cX6_countWays 66 = .ok (.iconst 2, 1) := by decide +kernel
theorem dX6_countWays_67 : decode cX6_countWays 67 = .ok (.invokevirtual 36, 3) := by decide +kernel
theorem dX6_countWays_70 : decode cX6_countWays 70 = .ok (.imul, 1) := by decide +kernel
theorem dX6_countWays_71 : decode cX6_countWays 71 = .ok (.invokevirtual 72, 3) := by decide +kernel
theorem dX6_countWays_74 : decode cX6_countWays 74 = .ok (.iinc 1 1, 3) := by decide +kernel
theorem dX6_countWays_77 : decode cX6_countWays 77 = .ok (.goto (-43), 3) := by decide +kernel
theorem dX6_countWays_80 : decode cX6_countWays 80 = .ok (.return_, 1) := by decide +kernel
theorem dX6_addUnsure_0 : decode cX6_addUnsure 0 = .ok (.aload_n 0, 1) := by decide +kernel
theorem dX6_addUnsure_1 : decode cX6_addUnsure 1 = .ok (.getfield 9, 3) := by decide +kernel
theorem dX6_addUnsure_4 : decode cX6_addUnsure 4 = .ok (.arraylength, 1) := by decide +kernel
theorem dX6_addUnsure_5 : decode cX6_addUnsure 5 = .ok (.iconst 1, 1) := by decide +kernel
theorem dX6_addUnsure_6 : decode cX6_addUnsure 6 = .ok (.isub, 1) := by decide +kernel
theorem dX6_addUnsure_7 : decode cX6_addUnsure 7 = .ok (.istore_n 2, 1) := by decide +kernel
theorem dX6_addUnsure_8 : decode cX6_addUnsure 8 = .ok (.iload_n 2, 1) := by decide +kernel
theorem dX6_addUnsure_9 : decode cX6_addUnsure 9 = .ok (.ifCond .lt 49, 3) := by decide +kernel
theorem dX6_addUnsure_12 : decode cX6_addUnsure 12 = .ok (.lconst 0, 1) := by decide +kernel
theorem dX6_addUnsure_13 : decode cX6_addUnsure 13 = .ok (.lstore_n 3, 1) := by decide +kernel
theorem dX6_addUnsure_14 : decode cX6_addUnsure 14 = .ok (.iconst 0, 1) := by decide +kernel
theorem dX6_addUnsure_15 : decode cX6_addUnsure 15 = .ok (.iload_n 2, 1) := by decide +kernel
theorem dX6_addUnsure_16 : decode cX6_addUnsure 16 = .ok (.iload_n 1, 1) := by decide +kernel
theorem dX6_addUnsure_17 : decode cX6_addUnsure 17 = .ok (.isub, 1) := by decide +kernel
theorem dX6_addUnsure_18 : decode cX6_addUnsure 18 = .ok (.invokestatic 76, 3) := by decide +kernel
theorem dX6_addUnsure_21 : decode cX6_addUnsure 21 = .ok (.istore 5, 2) := by decide +kernel
theorem dX6_addUnsure_23 : decode cX6_addUnsure 23 = .ok (.iload 5, 2) := by decide +kernel
theorem dX6_addUnsure_25 : decode cX6_addUnsure 25 = .ok (.iload_n 2, 1) := by decide +kernel
theorem dX6_addUnsure_26 : decode cX6_addUnsure 26 = .ok (.if_icmp .gt 19, 3) := by decide +kernel
theorem dX6_addUnsure_29 : decode cX6_addUnsure 29 = .ok (.lload_n 3, 1) := by decide +kernel
theorem dX6_addUnsure_30 : decode cX6_addUnsure 30 = .ok (.aload_n 0, 1) := by decide +kernel
theorem dX6_addUnsure_31 : decode cX6_addUnsure 31 = .ok (.getfield 9, 3) := by decide +kernel
theorem dX6_addUnsure_34 : decode cX6_addUnsure 34 = .ok (.iload 5, 2) := by decide +kernel
theorem dX6_addUnsure_36 : decode cX6_addUnsure 36 = .ok (.laload, 1) := by decide +kernel
theorem dX6_addUnsure_37 : decode cX6_addUnsure 37 = .ok (.ladd, 1) := by decide +kernel
theorem dX6_addUnsure_38 : decode cX6_addUnsure 38 = .ok (.lstore_n 3, 1) := by decide +kernel
theorem dX6_addUnsure_39 : decode cX6_addUnsure 39 = .ok (.iinc 5 1, 3) := by decide +kernel
theorem dX6_addUnsure_42 : decode cX6_addUnsure 42 = .ok (.goto (-19), 3) := by decide +kernel
theorem dX6_addUnsure_45 : decode cX6_addUnsure 45 = .ok (.aload_n 0, 1) := by decide +kernel
theorem dX6_addUnsure_46 : decode cX6_addUnsure 46 = .ok (.getfield 9, 3) := by decide +kernel
theorem dX6_addUnsure_49 : decode cX6_addUnsure 49 = .ok (.iload_n 2, 1) := by decide +kernel
theorem dX6_addUnsure_50 : decode cX6_addUnsure 50 = .ok (.lload_n 3, 1) := by decide +kernel
theorem dX6_addUnsure_51 : decode cX6_addUnsure 51 = .ok (.lastore, 1) := by decide +kernel
theorem dX6_addUnsure_52 : decode cX6_addUnsure 52 = .ok (.iinc 2 (-1), 3) := by decide +kernel
theorem dX6_addUnsure_55 : decode cX6_addUnsure 55 = .ok (.goto (-47), 3) := by decide +kernel
theorem dX6_addUnsure_58 : decode cX6_addUnsure 58 = .ok (.return_, 1) := by decide +kernel
theorem dX6_reduce_0 : decode cX6_reduce 0 = .ok (.aload_n 0, 1) := by decide +kernel
theorem dX6_reduce_1 : decode cX6_reduce 1 = .ok (.getfield 57, 3) := by decide +kernel
theorem dX6_reduce_4 : decode cX6_reduce 4 = .ok (.lstore_n 1, 1) := by decide +kernel
theorem dX6_reduce_5 : decode cX6_reduce 5 = .ok (.aload_n 0, 1) := by decide +kernel
theorem dX6_reduce_6 : decode cX6_reduce 6 = .ok (.getfield 61, 3) := by decide +kernel
theorem dX6_reduce_9 : decode cX6_reduce 9 = .ok (.lstore_n 3, 1) := by decide +kernel
theorem dX6_reduce_10 : decode cX6_reduce 10 = .ok (.iconst 0, 1) := by decide +kernel
theorem dX6_reduce_11 : decode cX6_reduce 11 = .ok (.istore 5, 2) := by decide +kernel
theorem dX6_reduce_13 : decode cX6_reduce 13 = .ok (.iload 5, 2) := by decide +kernel
theorem dX6_reduce_15 : decode cX6_reduce 15 = .ok (.sipush 200, 3) := by decide +kernel
theorem dX6_reduce_18 : decode cX6_reduce 18 = .ok (.if_icmp .ge 25, 3) := by decide +kernel
theorem dX6_reduce_21 : decode cX6_reduce 21 = .ok (.lload_n 3, 1) := by decide +kernel
theorem dX6_reduce_22 : decode cX6_reduce 22 = .ok (.lconst 0, 1) := by decide +kernel
theorem dX6_reduce_23 : decode cX6_reduce 23 = .ok (.lcmp, 1) := by decide +kernel
theorem dX6_reduce_24 : decode cX6_reduce 24 = .ok (.ifCond .eq 19, 3) := by decide +kernel
theorem dX6_reduce_27 : decode cX6_reduce 27 = .ok (.lload_n 1, 1) := by decide +kernel
theorem dX6_reduce_28 : decode cX6_reduce 28 = .ok (.lload_n 3, 1) := by decide +kernel
theorem dX6_reduce_29 : decode cX6_reduce 29 = .ok (.lrem, 1) := by decide +kernel
theorem dX6_reduce_30 : decode cX6_reduce 30 = .ok (.lstore 6, 2) := by decide +kernel
theorem dX6_reduce_32 : decode cX6_reduce 32 = .ok (.lload_n 3, 1) := by decide +kernel
theorem dX6_reduce_33 : decode cX6_reduce 33 = .ok (.lstore_n 1, 1) := by decide +kernel
theorem dX6_reduce_34 : decode cX6_reduce 34 = .ok (.lload 6, 2) := by decide +kernel
theorem dX6_reduce_36 : decode cX6_reduce 36 = .ok (.lstore_n 3, 1) := by decide +kernel
theorem dX6_reduce_37 : decode cX6_reduce 37 = .ok (.iinc 5 1, 3) := by decide +kernel
theorem dX6_reduce_40 : decode cX6_reduce 40 = .ok (.goto (-27), 3) := by decide +kernel
theorem dX6_reduce_43 : decode cX6_reduce 43 = .ok (.lload_n 1, 1) := by decide +kernel
theorem dX6_reduce_44 : decode cX6_reduce 44 = .ok (.lconst 1, 1) := by decide +kernel
theorem dX6_reduce_45 : decode cX6_reduce 45 = .ok (.lcmp, 1) := by decide +kernel
theorem dX6_reduce_46 : decode cX6_reduce 46 = .ok (.ifCond .le 23, 3) := by decide +kernel
theorem dX6_reduce_49 : decode cX6_reduce 49 = .ok (.aload_n 0, 1) := by decide +kernel
theorem dX6_reduce_50 : decode cX6_reduce 50 = .ok (.dup, 1) := by decide +kernel
theorem dX6_reduce_51 : decode cX6_reduce 51 = .ok (.getfield 57, 3) := by decide +kernel
theorem dX6_reduce_54 : decode cX6_reduce 54 = .ok (.lload_n 1, 1) := by decide +kernel
theorem dX6_reduce_55 : decode cX6_reduce 55 = .ok (.ldiv, 1) := by decide +kernel
theorem dX6_reduce_56 : decode cX6_reduce 56 = .ok (.putfield 57, 3) := by decide +kernel
theorem dX6_reduce_59 : decode cX6_reduce 59 = .ok (.aload_n 0, 1) := by decide +kernel
theorem dX6_reduce_60 : decode cX6_reduce 60 = .ok (.dup, 1) := by decide +kernel
theorem dX6_reduce_61 : decode cX6_reduce 61 = .ok (.getfield 61, 3) := by decide +kernel
theorem dX6_reduce_64 : decode cX6_reduce 64 = .ok (.lload_n 1, 1) := by decide +kernel
theorem dX6_reduce_65 : decode cX6_reduce 65 = .ok (.ldiv, 1) := by decide +kernel
theorem dX6_reduce_66 : decode cX6_reduce 66 = .ok (.putfield 61, 3) := by decide +kernel
theorem dX6_reduce_69 : decode cX6_reduce 69 = .ok (.return_, 1) := by decide +kernel
set_option maxRecDepth 20000 in
theorem ggX6_findThingToWeigh_X6_known : GoodIn wsX6_findThingToWeigh wsX6_known := goodIn_r _ [13, 14, 15, 16, 32, 33, 34, 35, 36, 37, 38, 39, 40] rfl (by decide +kernel)
set_option maxRecDepth 20000 in
theorem gX6_findThingToWeigh_X6_known : GoodIn wsX6_findThingToWeigh (wsV RX6 84 RX6 yX6_known wsX6_known) := goodIn_app (goodIn_of _ (by decide +kernel)) ggX6_findThingToWeigh_X6_known
set_option maxRecDepth 20000 in
theorem ggX6_findThingToWeigh_X6_tellingWeights : GoodIn wsX6_findThingToWeigh wsX6_tellingWeights := goodIn_r _ [20, 4, 8, 16, 14, 15, 21, 22, 23, 24, 25, 26, 27, 32, 33, 34, 35, 36, 37, 38, 39, 40, 41, 42, 43, 44, 45, 46, 47, 48, 49, 50, 51, 52, 53, 54] rfl (by decide +kernel)
set_option maxRecDepth 20000 in
theorem gX6_findThingToWeigh_X6_tellingWeights : GoodIn wsX6_findThingToWeigh (wsV RX6 88 RX6 yX6_tellingWeights wsX6_tellingWeights) := goodIn_app (goodIn_of _ (by decide +kernel)) ggX6_findThingToWeigh_X6_tellingWeights
set_option maxRecDepth 20000 in
theorem ggX6_findThingToWeigh_X8_at_ : GoodIn wsX6_findThingToWeigh wsX8_at_ := goodIn_r _ [25, 26, 27, 53, 54] rfl (by decide +kernel)
set_option maxRecDepth 20000 in
theorem gX6_findThingToWeigh_X8_at_ : GoodIn wsX6_findThingToWeigh (wsV RX6 36 RX8 yX8_at_ wsX8_at_) := goodIn_app (goodIn_of _ (by decide +kernel)) ggX6_findThingToWeigh_X8_at_
set_option maxRecDepth 20000 in
theorem ggX6_findThingToWeigh_X6_reduce : GoodIn wsX6_findThingToWeigh wsX6_reduce := goodIn_r _ [31, 2, 3, 32, 33, 34, 35, 36, 37, 38, 39, 40] rfl (by decide +kernel)
set_option maxRecDepth 20000 in
theorem gX6_findThingToWeigh_X6_reduce : GoodIn wsX6_findThingToWeigh (wsV RX6 64 RX6 yX6_reduce wsX6_reduce) := goodIn_app (goodIn_of _ (by decide +kernel)) ggX6_findThingToWeigh_X6_reduce
theorem dX6_findThingToWeigh_0 : decode cX6_findThingToWeigh 0 = .ok (.aload_n 0, 1) := by decide +kernel
theorem dX6_findThingToWeigh_1 : decode cX6_findThingToWeigh 1 = .ok (.iconst (-1), 1) := by decide +kernel
theorem dX6_findThingToWeigh_2 : decode cX6_findThingToWeigh 2 = .ok (.putfield 81, 3) := by decide +kernel
theorem dX6_findThingToWeigh_5 : decode cX6_findThingToWeigh 5 = .ok (.aload_n 0, 1) := by decide +kernel
theorem dX6_findThingToWeigh_6 : decode cX6_findThingToWeigh 6 = .ok (.lconst 0, 1) := by decide +kernel
theorem dX6_findThingToWeigh_7 : decode cX6_findThingToWeigh 7 = .ok (.putfield 57, 3) := by decide +kernel
theorem dX6_findThingToWeigh_10 : decode cX6_findThingToWeigh 10 = .ok (.aload_n 0, 1) := by decide +kernel
theorem dX6_findThingToWeigh_11 : decode cX6_findThingToWeigh 11 = .ok (.lconst 1, 1) := by decide +kernel
theorem dX6_findThingToWeigh_12 : decode cX6_findThingToWeigh 12 = .ok (.putfield 61, 3) := by decide +kernel
theorem dX6_findThingToWeigh_15 : decode cX6_findThingToWeigh 15 = .ok (.aload_n 0, 1) := by decide +kernel
theorem dX6_findThingToWeigh_16 : decode cX6_findThingToWeigh 16 = .ok (.invokevirtual 84, 3) := by decide +kernel
theorem dX6_findThingToWeigh_19 : decode cX6_findThingToWeigh 19 = .ok (.iconst 2, 1) := by decide +kernel
theorem dX6_findThingToWeigh_20 : decode cX6_findThingToWeigh 20 = .ok (.if_icmp .eq 4, 3) := by decide +kernel
theorem dX6_findThingToWeigh_23 : decode cX6_findThingToWeigh 23 = .ok (.return_, 1) := by decide +kernel
theorem dX6_findThingToWeigh_24 : decode cX6_findThingToWeigh 24 = .ok (.iconst 0, 1) := by decide +kernel
theorem dX6_findThingToWeigh_25 : decode cX6_findThingToWeigh 25 = .ok (.istore_n 1, 1) := by decide +kernel
theorem dX6_findThingToWeigh_26 : decode cX6_findThingToWeigh 26 = .ok (.iload_n 1, 1) := by decide +kernel
theorem dX6_findThingToWeigh_27 : decode cX6_findThingToWeigh 27 = .ok (.aload_n 0, 1) := by decide +kernel
theorem dX6_findThingToWeigh_28 : decode cX6_findThingToWeigh 28 = .ok (.getfield 15, 3) := by decide +kernel
theorem dX6_findThingToWeigh_31 : decode cX6_findThingToWeigh 31 = .ok (.getfield 67, 3) := by decide +kernel
theorem dX6_findThingToWeigh_34 : decode cX6_findThingToWeigh 34 = .ok (.if_icmp .ge 99, 3) := by decide +kernel
theorem dX6_findThingToWeigh_37 : decode cX6_findThingToWeigh 37 = .ok (.aload_n 0, 1) := by decide +kernel
theorem dX6_findThingToWeigh_38 : decode cX6_findThingToWeigh 38 = .ok (.getfield 26, 3) := by decide +kernel
theorem dX6_findThingToWeigh_41 : decode cX6_findThingToWeigh 41 = .ok (.iload_n 1, 1) := by decide +kernel
theorem dX6_findThingToWeigh_42 : decode cX6_findThingToWeigh 42 = .ok (.ishr, 1) := by decide +kernel
theorem dX6_findThingToWeigh_43 : decode cX6_findThingToWeigh 43 = .ok (.iconst 1, 1) := by decide +kernel
theorem dX6_findThingToWeigh_44 : decode cX6_findThingToWeigh 44 = .ok (.iand, 1) := by decide +kernel
theorem dX6_findThingToWeigh_45 : decode cX6_findThingToWeigh 45 = .ok (.ifCond .eq 12, 3) := by decide +kernel
theorem dX6_findThingToWeigh_48 : decode cX6_findThingToWeigh 48 = .ok (.aload_n 0, 1) := by decide +kernel
theorem dX6_findThingToWeigh_49 : decode cX6_findThingToWeigh 49 = .ok (.iload_n 1, 1) := by decide +kernel
theorem dX6_findThingToWeigh_50 : decode cX6_findThingToWeigh 50 = .ok (.invokevirtual 88, 3) := by decide +kernel
theorem dX6_findThingToWeigh_53 : decode cX6_findThingToWeigh 53 = .ok (.i2l, 1) := by decide +kernel
theorem dX6_findThingToWeigh_54 : decode cX6_findThingToWeigh 54 = .ok (.goto 6, 3) := by decide +kernel
theorem dX6_findThingToWeigh_57 : decode cX6_findThingToWeigh 57 = .ok (.ldc2_w 91, 3) := by decide +kernel
theorem dX6_findThingToWeigh_60 : decode cX6_findThingToWeigh 60 = .ok (.lstore_n 2, 1) := by decide +kernel
theorem dX6_findThingToWeigh_61 : decode cX6_findThingToWeigh 61 = .ok (.iconst 2, 1) := by decide +kernel
theorem dX6_findThingToWeigh_62 : decode cX6_findThingToWeigh 62 = .ok (.aload_n 0, 1) := by decide +kernel
theorem dX6_findThingToWeigh_63 : decode cX6_findThingToWeigh 63 = .ok (.getfield 15, 3) := by decide +kernel
theorem dX6_findThingToWeigh_66 : decode cX6_findThingToWeigh 66 = .ok (.getfield 70, 3) := by decide +kernel
theorem dX6_findThingToWeigh_69 : decode cX6_findThingToWeigh 69 = .ok (.iload_n 1, 1) := by decide +kernel
theorem dX6_findThingToWeigh_70 : decode cX6_findThingToWeigh 70 = .ok (.iconst 2, 1) := by decide +kernel
theorem dX6_findThingToWeigh_71 : decode cX6_findThingToWeigh 71 = .ok (.invokevirtual 36, 3) := by decide +kernel
theorem dX6_findThingToWeigh_74 : decode cX6_findThingToWeigh 74 = .ok (.imul, 1) := by decide +kernel
theorem dX6_findThingToWeigh_75 : decode cX6_findThingToWeigh 75 = .ok (.iconst 1, 1) := by decide +kernel
theorem dX6_findThingToWeigh_76 : decode cX6_findThingToWeigh 76 = .ok (.iadd, 1) := by decide +kernel
theorem dX6_findThingToWeigh_77 : decode cX6_findThingToWeigh 77 = .ok (.i2l, 1) := by decide +kernel
theorem dX6_findThingToWeigh_78 : decode cX6_findThingToWeigh 78 = .ok (.lstore 4, 2) := by decide +kernel
theorem dX6_findThingToWeigh_80 : decode cX6_findThingToWeigh 80 = .ok (.lload_n 2, 1) := by decide +kernel
theorem dX6_findThingToWeigh_81 : decode cX6_findThingToWeigh 81 = .ok (.lconst 0, 1) := by decide +kernel
theorem dX6_findThingToWeigh_82 : decode cX6_findThingToWeigh 82 = .ok (.lcmp, 1) := by decide +kernel
theorem dX6_findThingToWeigh_83 : decode cX6_findThingToWeigh 83 = .ok (.ifCond .lt 44, 3) := by decide +kernel
theorem dX6_findThingToWeigh_86 : decode cX6_findThingToWeigh 86 = .ok (.aload_n 0, 1) := by decide +kernel
theorem dX6_findThingToWeigh_87 : decode cX6_findThingToWeigh 87 = .ok (.getfield 81, 3) := by decide +kernel
theorem dX6_findThingToWeigh_90 : decode cX6_findThingToWeigh 90 = .ok (.iconst (-1), 1) := by decide +kernel
theorem dX6_findThingToWeigh_91 : decode cX6_findThingToWeigh 91 = .ok (.if_icmp .eq 20, 3) := by decide +kernel
theorem dX6_findThingToWeigh_94 : decode cX6_findThingToWeigh 94 = .ok (.lload_n 2, 1) := by decide +kernel
theorem dX6_findThingToWeigh_95 : decode cX6_findThingToWeigh 95 = .ok (.aload_n 0, 1) := by decide +kernel
theorem dX6_findThingToWeigh_96 : decode cX6_findThingToWeigh 96 = .ok (.getfield 61, 3) := by decide +kernel
theorem dX6_findThingToWeigh_99 : decode cX6_findThingToWeigh 99 = .ok (.lmul, 1) := by decide +kernel
theorem dX6_findThingToWeigh_100 : decode cX6_findThingToWeigh 100 = .ok (.aload_n 0, 1) := by decide +kernel
theorem dX6_findThingToWeigh_101 : decode cX6_findThingToWeigh 101 = .ok (.getfield 57, 3) := by decide +kernel
theorem dX6_findThingToWeigh_104 : decode cX6_findThingToWeigh 104 = .ok (.lload 4, 2) := by decide +kernel
theorem dX6_findThingToWeigh_106 : decode cX6_findThingToWeigh 106 = .ok (.lmul, 1) := by decide +kernel
theorem dX6_findThingToWeigh_107 : decode cX6_findThingToWeigh 107 = .ok (.lcmp, 1) := by decide +kernel
theorem dX6_findThingToWeigh_108 : decode cX6_findThingToWeigh 108 = .ok (.ifCond .le 19, 3) := by decide +kernel
theorem dX6_findThingToWeigh_111 : decode cX6_findThingToWeigh 111 = .ok (.aload_n 0, 1) := by decide +kernel
theorem dX6_findThingToWeigh_112 : decode cX6_findThingToWeigh 112 = .ok (.iload_n 1, 1) := by decide +kernel
theorem dX6_findThingToWeigh_113 : decode cX6_findThingToWeigh 113 = .ok (.putfield 81, 3) := by decide +kernel
theorem dX6_findThingToWeigh_116 : decode cX6_findThingToWeigh 116 = .ok (.aload_n 0, 1) := by decide +kernel
theorem dX6_findThingToWeigh_117 : decode cX6_findThingToWeigh 117 = .ok (.lload_n 2, 1) := by decide +kernel
theorem dX6_findThingToWeigh_118 : decode cX6_findThingToWeigh 118 = .ok (.putfield 57, 3) := by decide +kernel
theorem dX6_findThingToWeigh_121 : decode cX6_findThingToWeigh 121 = .ok (.aload_n 0, 1) := by decide +kernel
theorem dX6_findThingToWeigh_122 : decode cX6_findThingToWeigh 122 = .ok (.lload 4, 2) := by decide +kernel
theorem dX6_findThingToWeigh_124 : decode cX6_findThingToWeigh 124 = .ok (.putfield 61, 3) := by decide +kernel
theorem dX6_findThingToWeigh_127 : decode cX6_findThingToWeigh 127 = .ok (.iinc 1 1, 3) := by decide +kernel
theorem dX6_findThingToWeigh_130 : decode cX6_findThingToWeigh 130 = .ok (.goto (-104), 3) := by decide +kernel
theorem dX6_findThingToWeigh_133 : decode cX6_findThingToWeigh 133 = .ok (.aload_n 0, 1) := by decide +kernel
theorem dX6_findThingToWeigh_134 : decode cX6_findThingToWeigh 134 = .ok (.invokevirtual 64, 3) := by decide +kernel
theorem dX6_findThingToWeigh_137 : decode cX6_findThingToWeigh 137 = .ok (.return_, 1) := by decide +kernel
set_option maxRecDepth 20000 in
theorem ggX6_tellingWeights_X8_at_ : GoodIn wsX6_tellingWeights wsX8_at_ := goodIn_r _ [10, 11, 12, 34, 35] rfl (by decide +kernel)
set_option maxRecDepth 20000 in
theorem gX6_tellingWeights_X8_at_ : GoodIn wsX6_tellingWeights (wsV RX6 36 RX8 yX8_at_ wsX8_at_) := goodIn_app (goodIn_of _ (by decide +kernel)) ggX6_tellingWeights_X8_at_
theorem dX6_tellingWeights_0 : decode cX6_tellingWeights 0 = .ok (.aload_n 0, 1) := by decide +kernel
theorem dX6_tellingWeights_1 : decode cX6_tellingWeights 1 = .ok (.getfield 15, 3) := by decide +kernel
theorem dX6_tellingWeights_4 : decode cX6_tellingWeights 4 = .ok (.getfield 70, 3) := by decide +kernel
theorem dX6_tellingWeights_7 : decode cX6_tellingWeights 7 = .ok (.iload_n 1, 1) := by decide +kernel
theorem dX6_tellingWeights_8 : decode cX6_tellingWeights 8 = .ok (.iconst 1, 1) := by decide +kernel
theorem dX6_tellingWeights_9 : decode cX6_tellingWeights 9 = .ok (.invokevirtual 36, 3) := by decide +kernel
theorem dX6_tellingWeights_12 : decode cX6_tellingWeights 12 = .ok (.istore_n 2, 1) := by decide +kernel
theorem dX6_tellingWeights_13 : decode cX6_tellingWeights 13 = .ok (.aload_n 0, 1) := by decide +kernel
theorem dX6_tellingWeights_14 : decode cX6_tellingWeights 14 = .ok (.getfield 15, 3) := by decide +kernel
theorem dX6_tellingWeights_17 : decode cX6_tellingWeights 17 = .ok (.getfield 70, 3) := by decide +kernel
theorem dX6_tellingWeights_20 : decode cX6_tellingWeights 20 = .ok (.iload_n 1, 1) := by decide +kernel
theorem dX6_tellingWeights_21 : decode cX6_tellingWeights 21 = .ok (.iconst 2, 1) := by decide +kernel
theorem dX6_tellingWeights_22 : decode cX6_tellingWeights 22 = .ok (.invokevirtual 36, 3) := by decide +kernel
theorem dX6_tellingWeights_25 : decode cX6_tellingWeights 25 = .ok (.istore_n 3, 1) := by decide +kernel
theorem dX6_tellingWeights_26 : decode cX6_tellingWeights 26 = .ok (.iconst 0, 1) := by decide +kernel
theorem dX6_tellingWeights_27 : decode cX6_tellingWeights 27 = .ok (.istore 4, 2) := by decide +kernel
theorem dX6_tellingWeights_29 : decode cX6_tellingWeights 29 = .ok (.iload_n 2, 1) := by decide +kernel
theorem dX6_tellingWeights_30 : decode cX6_tellingWeights 30 = .ok (.iload_n 3, 1) := by decide +kernel
theorem dX6_tellingWeights_31 : decode cX6_tellingWeights 31 = .ok (.isub, 1) := by decide +kernel
theorem dX6_tellingWeights_32 : decode cX6_tellingWeights 32 = .ok (.istore 5, 2) := by decide +kernel
theorem dX6_tellingWeights_34 : decode cX6_tellingWeights 34 = .ok (.iload 5, 2) := by decide +kernel
theorem dX6_tellingWeights_36 : decode cX6_tellingWeights 36 = .ok (.iload_n 2, 1) := by decide +kernel
theorem dX6_tellingWeights_37 : decode cX6_tellingWeights 37 = .ok (.iload_n 3, 1) := by decide +kernel
theorem dX6_tellingWeights_38 : decode cX6_tellingWeights 38 = .ok (.iadd, 1) := by decide +kernel
theorem dX6_tellingWeights_39 : decode cX6_tellingWeights 39 = .ok (.if_icmp .gt 63, 3) := by decide +kernel
theorem dX6_tellingWeights_42 : decode cX6_tellingWeights 42 = .ok (.aload_n 0, 1) := by decide +kernel
theorem dX6_tellingWeights_43 : decode cX6_tellingWeights 43 = .ok (.getfield 48, 3) := by decide +kernel
theorem dX6_tellingWeights_46 : decode cX6_tellingWeights 46 = .ok (.iload_n 2, 1) := by decide +kernel
theorem dX6_tellingWeights_47 : decode cX6_tellingWeights 47 = .ok (.iload_n 3, 1) := by decide +kernel
theorem dX6_tellingWeights_48 : decode cX6_tellingWeights 48 = .ok (.isub, 1) := by decide +kernel
theorem dX6_tellingWeights_49 : decode cX6_tellingWeights 49 = .ok (.isub, 1) := by decide +kernel
theorem dX6_tellingWeights_50 : decode cX6_tellingWeights 50 = .ok (.iload 5, 2) := by decide +kernel
theorem dX6_tellingWeights_52 : decode cX6_tellingWeights 52 = .ok (.iadd, 1) := by decide +kernel
theorem dX6_tellingWeights_53 : decode cX6_tellingWeights 53 = .ok (.istore 6, 2) := by decide +kernel
theorem dX6_tellingWeights_55 : decode cX6_tellingWeights 55 = .ok (.aload_n 0, 1) := by decide +kernel
theorem dX6_tellingWeights_56 : decode cX6_tellingWeights 56 = .ok (.getfield 51, 3) := by decide +kernel
theorem dX6_tellingWeights_59 : decode cX6_tellingWeights 59 = .ok (.iload_n 2, 1) := by decide +kernel
theorem dX6_tellingWeights_60 : decode cX6_tellingWeights 60 = .ok (.iload_n 3, 1) := by decide +kernel
theorem dX6_tellingWeights_61 : decode cX6_tellingWeights 61 = .ok (.iadd, 1) := by decide +kernel
theorem dX6_tellingWeights_62 : decode cX6_tellingWeights 62 = .ok (.isub, 1) := by decide +kernel
theorem dX6_tellingWeights_63 : decode cX6_tellingWeights 63 = .ok (.iload 5, 2) := by decide +kernel
theorem dX6_tellingWeights_65 : decode cX6_tellingWeights 65 = .ok (.iadd, 1) := by decide +kernel
theorem dX6_tellingWeights_66 : decode cX6_tellingWeights 66 = .ok (.istore 7, 2) := by decide +kernel
theorem dX6_tellingWeights_68 : decode cX6_tellingWeights 68 = .ok (.iload 4, 2) := by decide +kernel
theorem dX6_tellingWeights_70 : decode cX6_tellingWeights 70 = .ok (.iload 6, 2) := by decide +kernel
theorem dX6_tellingWeights_72 : decode cX6_tellingWeights 72 = .ok (.aload_n 0, 1) := by decide +kernel
theorem dX6_tellingWeights_73 : decode cX6_tellingWeights 73 = .ok (.getfield 42, 3) := by decide +kernel
theorem dX6_tellingWeights_76 : decode cX6_tellingWeights 76 = .ok (.if_icmp .gt 12, 3) := by decide +kernel
theorem dX6_tellingWeights_79 : decode cX6_tellingWeights 79 = .ok (.iload 7, 2) := by decide +kernel
theorem dX6_tellingWeights_81 : decode cX6_tellingWeights 81 = .ok (.aload_n 0, 1) := by decide +kernel
theorem dX6_tellingWeights_82 : decode cX6_tellingWeights 82 = .ok (.getfield 42, 3) := by decide +kernel
theorem dX6_tellingWeights_85 : decode cX6_tellingWeights 85 = .ok (.if_icmp .gt 7, 3) := by decide +kernel
theorem dX6_tellingWeights_88 : decode cX6_tellingWeights 88 = .ok (.iconst 1, 1) := by decide +kernel
theorem dX6_tellingWeights_89 : decode cX6_tellingWeights 89 = .ok (.goto 4, 3) := by decide +kernel
theorem dX6_tellingWeights_92 : decode cX6_tellingWeights 92 = .ok (.iconst 0, 1) := by decide +kernel
theorem dX6_tellingWeights_93 : decode cX6_tellingWeights 93 = .ok (.iadd, 1) := by decide +kernel
theorem dX6_tellingWeights_94 : decode cX6_tellingWeights 94 = .ok (.istore 4, 2) := by decide +kernel
theorem dX6_tellingWeights_96 : decode cX6_tellingWeights 96 = .ok (.iinc 5 1, 3) := by decide +kernel
theorem dX6_tellingWeights_99 : decode cX6_tellingWeights 99 = .ok (.goto (-65), 3) := by decide +kernel
theorem dX6_tellingWeights_102 : decode cX6_tellingWeights 102 = .ok (.iload 4, 2) := by decide +kernel
theorem dX6_tellingWeights_104 : decode cX6_tellingWeights 104 = .ok (.ireturn, 1) := by decide +kernel
