set_option maxRecDepth 20000 in
theorem ggX5_init_X8_init : GoodIn wsX5_init wsX8_init := goodIn_r _ [12, 13, 2, 3, 14, 15, 16, 17, 18, 19, 20, 21, 22] rfl (by decide +kernel)
set_option maxRecDepth 20000 in
theorem gX5_init_X8_init : GoodIn wsX5_init (wsX8_init) := ggX5_init_X8_init
theorem dX5_init_0 : decode cX5_init 0 = .ok (.aload_n 0, 1) := by decide +kernel
theorem dX5_init_1 : decode cX5_init 1 = .ok (.invokespecial 3, 3) := by decide +kernel
theorem dX5_init_4 : decode cX5_init 4 = .ok (.aload_n 0, 1) := by decide +kernel
theorem dX5_init_5 : decode cX5_init 5 = .ok (.new 9, 3) := by decide +kernel
theorem dX5_init_8 : decode cX5_init 8 = .ok (.dup, 1) := by decide +kernel
theorem dX5_init_9 : decode cX5_init 9 = .ok (.sipush 700, 3) := by decide +kernel
theorem dX5_init_12 : decode cX5_init 12 = .ok (.iconst 1, 1) := by decide +kernel
theorem dX5_init_13 : decode cX5_init 13 = .ok (.invokespecial 11, 3) := by decide +kernel
theorem dX5_init_16 : decode cX5_init 16 = .ok (.putfield 14, 3) := by decide +kernel
theorem dX5_init_19 : decode cX5_init 19 = .ok (.aload_n 0, 1) := by decide +kernel
theorem dX5_init_20 : decode cX5_init 20 = .ok (.new 9, 3) := by decide +kernel
theorem dX5_init_23 : decode cX5_init 23 = .ok (.dup, 1) := by decide +kernel
theorem dX5_init_24 : decode cX5_init 24 = .ok (.iconst 5, 1) := by decide +kernel
theorem dX5_init_25 : decode cX5_init 25 = .ok (.iconst 1, 1) := by decide +kernel
theorem dX5_init_26 : decode cX5_init 26 = .ok (.invokespecial 11, 3) := by decide +kernel
theorem dX5_init_29 : decode cX5_init 29 = .ok (.putfield 20, 3) := by decide +kernel
theorem dX5_init_32 : decode cX5_init 32 = .ok (.aload_n 0, 1) := by decide +kernel
theorem dX5_init_33 : decode cX5_init 33 = .ok (.new 9, 3) := by decide +kernel
theorem dX5_init_36 : decode cX5_init 36 = .ok (.dup, 1) := by decide +kernel
theorem dX5_init_37 : decode cX5_init 37 = .ok (.bipush 31, 2) := by decide +kernel
theorem dX5_init_39 : decode cX5_init 39 = .ok (.iconst 1, 1) := by decide +kernel
theorem dX5_init_40 : decode cX5_init 40 = .ok (.invokespecial 11, 3) := by decide +kernel
theorem dX5_init_43 : decode cX5_init 43 = .ok (.putfield 23, 3) := by decide +kernel
theorem dX5_init_46 : decode cX5_init 46 = .ok (.return_, 1) := by decide +kernel
theorem dX5_clear_0 : decode cX5_clear 0 = .ok (.aload_n 0, 1) := by decide +kernel
theorem dX5_clear_1 : decode cX5_clear 1 = .ok (.iconst 0, 1) := by decide +kernel
theorem dX5_clear_2 : decode cX5_clear 2 = .ok (.putfield 26, 3) := by decide +kernel
theorem dX5_clear_5 : decode cX5_clear 5 = .ok (.aload_n 0, 1) := by decide +kernel
theorem dX5_clear_6 : decode cX5_clear 6 = .ok (.iconst 0, 1) := by decide +kernel
theorem dX5_clear_7 : decode cX5_clear 7 = .ok (.putfield 30, 3) := by decide +kernel
theorem dX5_clear_10 : decode cX5_clear 10 = .ok (.return_, 1) := by decide +kernel
set_option maxRecDepth 20000 in
theorem ggX5_append_X8_set : GoodIn wsX5_append wsX8_set := goodIn_r _ [7, 8, 15, 16] rfl (by decide +kernel)
set_option maxRecDepth 20000 in
theorem gX5_append_X8_set : GoodIn wsX5_append (wsV RX5 34 RX8 yX8_set wsX8_set) := goodIn_app (goodIn_of _ (by decide +kernel)) ggX5_append_X8_set
theorem dX5_append_0 : decode cX5_append 0 = .ok (.aload_n 0, 1) := by decide +kernel
theorem dX5_append_1 : decode cX5_append 1 = .ok (.getfield 14, 3) := by decide +kernel
theorem dX5_append_4 : decode cX5_append 4 = .ok (.aload_n 0, 1) := by decide +kernel
theorem dX5_append_5 : decode cX5_append 5 = .ok (.getfield 30, 3) := by decide +kernel
theorem dX5_append_8 : decode cX5_append 8 = .ok (.iload_n 1, 1) := by decide +kernel
theorem dX5_append_9 : decode cX5_append 9 = .ok (.invokevirtual 34, 3) := by decide +kernel
theorem dX5_append_12 : decode cX5_append 12 = .ok (.aload_n 0, 1) := by decide +kernel
theorem dX5_append_13 : decode cX5_append 13 = .ok (.dup, 1) := by decide +kernel
theorem dX5_append_14 : decode cX5_append 14 = .ok (.getfield 30, 3) := by decide +kernel
theorem dX5_append_17 : decode cX5_append 17 = .ok (.iconst 1, 1) := by decide +kernel
theorem dX5_append_18 : decode cX5_append 18 = .ok (.iadd, 1) := by decide +kernel
theorem dX5_append_19 : decode cX5_append 19 = .ok (.putfield 30, 3) := by decide +kernel
theorem dX5_append_22 : decode cX5_append 22 = .ok (.return_, 1) := by decide +kernel
set_option maxRecDepth 20000 in
theorem ggX5_feeFor_X8_set : GoodIn wsX5_feeFor wsX8_set := goodIn_r _ [18, 19, 38, 39] rfl (by decide +kernel)
set_option maxRecDepth 20000 in
theorem gX5_feeFor_X8_set : GoodIn wsX5_feeFor (wsV RX5 34 RX8 yX8_set wsX8_set) := goodIn_app (goodIn_of _ (by decide +kernel)) ggX5_feeFor_X8_set
set_option maxRecDepth 20000 in
theorem ggX5_feeFor_X8_at : GoodIn wsX5_feeFor wsX8_at := goodIn_r _ [23, 19, 38, 39] rfl (by decide +kernel)
set_option maxRecDepth 20000 in
theorem gX5_feeFor_X8_at : GoodIn wsX5_feeFor (wsV RX5 40 RX8 yX8_at wsX8_at) := goodIn_app (goodIn_of _ (by decide +kernel)) ggX5_feeFor_X8_at
set_option maxRecDepth 20000 in
theorem ggX5_feeFor_X5_reckon : GoodIn wsX5_feeFor wsX5_reckon := goodIn_r _ [28, 6, 3, 2, 20, 21, 22, 17, 23, 19, 14, 15, 16, 18, 29, 30, 27, 31, 32, 33, 34, 35, 36, 37, 38, 39] rfl (by decide +kernel)
set_option maxRecDepth 20000 in
theorem gX5_feeFor_X5_reckon : GoodIn wsX5_feeFor (wsV RX5 44 RX5 yX5_reckon wsX5_reckon) := goodIn_app (goodIn_of _ (by decide +kernel)) ggX5_feeFor_X5_reckon
theorem dX5_feeFor_0 : decode cX5_feeFor 0 = .ok (.iload_n 1, 1) := by decide +kernel
theorem dX5_feeFor_1 : decode cX5_feeFor 1 = .ok (.iload_n 2, 1) := by decide +kernel
theorem dX5_feeFor_2 : decode cX5_feeFor 2 = .ok (.isub, 1) := by decide +kernel
theorem dX5_feeFor_3 : decode cX5_feeFor 3 = .ok (.istore 5, 2) := by decide +kernel
theorem dX5_feeFor_5 : decode cX5_feeFor 5 = .ok (.iload 5, 2) := by decide +kernel
theorem dX5_feeFor_7 : decode cX5_feeFor 7 = .ok (.ifCond .gt 5, 3) := by decide +kernel
theorem dX5_feeFor_10 : decode cX5_feeFor 10 = .ok (.iconst 0, 1) := by decide +kernel
theorem dX5_feeFor_11 : decode cX5_feeFor 11 = .ok (.ireturn, 1) := by decide +kernel
theorem dX5_feeFor_12 : decode cX5_feeFor 12 = .ok (.aload_n 0, 1) := by decide +kernel
theorem dX5_feeFor_13 : decode cX5_feeFor 13 = .ok (.getfield 26, 3) := by decide +kernel
theorem dX5_feeFor_16 : decode cX5_feeFor 16 = .ok (.ifCond .ne 9, 3) := by decide +kernel
theorem dX5_feeFor_19 : decode cX5_feeFor 19 = .ok (.bipush 10, 2) := by decide +kernel
theorem dX5_feeFor_21 : decode cX5_feeFor 21 = .ok (.iload 5, 2) := by decide +kernel
theorem dX5_feeFor_23 : decode cX5_feeFor 23 = .ok (.imul, 1) := by decide +kernel
theorem dX5_feeFor_24 : decode cX5_feeFor 24 = .ok (.ireturn, 1) := by decide +kernel
theorem dX5_feeFor_25 : decode cX5_feeFor 25 = .ok (.aload_n 0, 1) := by decide +kernel
theorem dX5_feeFor_26 : decode cX5_feeFor 26 = .ok (.getfield 20, 3) := by decide +kernel
theorem dX5_feeFor_29 : decode cX5_feeFor 29 = .ok (.iconst 0, 1) := by decide +kernel
theorem dX5_feeFor_30 : decode cX5_feeFor 30 = .ok (.iload 5, 2) := by decide +kernel
theorem dX5_feeFor_32 : decode cX5_feeFor 32 = .ok (.invokevirtual 34, 3) := by decide +kernel
theorem dX5_feeFor_35 : decode cX5_feeFor 35 = .ok (.aload_n 0, 1) := by decide +kernel
theorem dX5_feeFor_36 : decode cX5_feeFor 36 = .ok (.getfield 20, 3) := by decide +kernel
theorem dX5_feeFor_39 : decode cX5_feeFor 39 = .ok (.iconst 1, 1) := by decide +kernel
theorem dX5_feeFor_40 : decode cX5_feeFor 40 = .ok (.iload_n 1, 1) := by decide +kernel
theorem dX5_feeFor_41 : decode cX5_feeFor 41 = .ok (.invokevirtual 34, 3) := by decide +kernel
theorem dX5_feeFor_44 : decode cX5_feeFor 44 = .ok (.aload_n 0, 1) := by decide +kernel
theorem dX5_feeFor_45 : decode cX5_feeFor 45 = .ok (.getfield 20, 3) := by decide +kernel
theorem dX5_feeFor_48 : decode cX5_feeFor 48 = .ok (.iconst 2, 1) := by decide +kernel
theorem dX5_feeFor_49 : decode cX5_feeFor 49 = .ok (.iload_n 2, 1) := by decide +kernel
theorem dX5_feeFor_50 : decode cX5_feeFor 50 = .ok (.invokevirtual 34, 3) := by decide +kernel
theorem dX5_feeFor_53 : decode cX5_feeFor 53 = .ok (.aload_n 0, 1) := by decide +kernel
theorem dX5_feeFor_54 : decode cX5_feeFor 54 = .ok (.getfield 20, 3) := by decide +kernel
theorem dX5_feeFor_57 : decode cX5_feeFor 57 = .ok (.iconst 3, 1) := by decide +kernel
theorem dX5_feeFor_58 : decode cX5_feeFor 58 = .ok (.iload_n 3, 1) := by decide +kernel
theorem dX5_feeFor_59 : decode cX5_feeFor 59 = .ok (.invokevirtual 34, 3) := by decide +kernel
theorem dX5_feeFor_62 : decode cX5_feeFor 62 = .ok (.aload_n 0, 1) := by decide +kernel
theorem dX5_feeFor_63 : decode cX5_feeFor 63 = .ok (.getfield 20, 3) := by decide +kernel
theorem dX5_feeFor_66 : decode cX5_feeFor 66 = .ok (.iconst 4, 1) := by decide +kernel
theorem dX5_feeFor_67 : decode cX5_feeFor 67 = .ok (.iload 4, 2) := by decide +kernel
theorem dX5_feeFor_69 : decode cX5_feeFor 69 = .ok (.invokevirtual 34, 3) := by decide +kernel
theorem dX5_feeFor_72 : decode cX5_feeFor 72 = .ok (.aload_n 0, 1) := by decide +kernel
theorem dX5_feeFor_73 : decode cX5_feeFor 73 = .ok (.iconst 0, 1) := by decide +kernel
theorem dX5_feeFor_74 : decode cX5_feeFor 74 = .ok (.putfield 37, 3) := by decide +kernel
theorem dX5_feeFor_77 : decode cX5_feeFor 77 = .ok (.iconst 0, 1) := by decide +kernel
theorem dX5_feeFor_78 : decode cX5_feeFor 78 = .ok (.istore 6, 2) := by decide +kernel
theorem dX5_feeFor_80 : decode cX5_feeFor 80 = .ok (.iload 6, 2) := by decide +kernel
theorem dX5_feeFor_82 : decode cX5_feeFor 82 = .ok (.aload_n 0, 1) := by decide +kernel
theorem dX5_feeFor_83 : decode cX5_feeFor 83 = .ok (.getfield 30, 3) := by decide +kernel
theorem dX5_feeFor_86 : decode cX5_feeFor 86 = .ok (.if_icmp .ge 22, 3) := by decide +kernel
theorem dX5_feeFor_89 : decode cX5_feeFor 89 = .ok (.aload_n 0, 1) := by decide +kernel
theorem dX5_feeFor_90 : decode cX5_feeFor 90 = .ok (.aload_n 0, 1) := by decide +kernel
theorem dX5_feeFor_91 : decode cX5_feeFor 91 = .ok (.getfield 14, 3) := by decide +kernel
theorem dX5_feeFor_94 : decode cX5_feeFor 94 = .ok (.iload 6, 2) := by decide +kernel
theorem dX5_feeFor_96 : decode cX5_feeFor 96 = .ok (.invokevirtual 40, 3) := by decide +kernel
theorem dX5_feeFor_99 : decode cX5_feeFor 99 = .ok (.invokevirtual 44, 3) := by decide +kernel
theorem dX5_feeFor_102 : decode cX5_feeFor 102 = .ok (.iinc 6 1, 3) := by decide +kernel
theorem dX5_feeFor_105 : decode cX5_feeFor 105 = .ok (.goto (-25), 3) := by decide +kernel
theorem dX5_feeFor_108 : decode cX5_feeFor 108 = .ok (.iconst 0, 1) := by decide +kernel
theorem dX5_feeFor_109 : decode cX5_feeFor 109 = .ok (.sipush 9999, 3) := by decide +kernel
theorem dX5_feeFor_112 : decode cX5_feeFor 112 = .ok (.aload_n 0, 1) := by decide +kernel
theorem dX5_feeFor_113 : decode cX5_feeFor 113 = .ok (.getfield 23, 3) := by decide +kernel
theorem dX5_feeFor_116 : decode cX5_feeFor 116 = .ok (.iconst 0, 1) := by decide +kernel
theorem dX5_feeFor_117 : decode cX5_feeFor 117 = .ok (.invokevirtual 40, 3) := by decide +kernel
theorem dX5_feeFor_120 : decode cX5_feeFor 120 = .ok (.invokestatic 48, 3) := by decide +kernel
theorem dX5_feeFor_123 : decode cX5_feeFor 123 = .ok (.invokestatic 54, 3) := by decide +kernel
theorem dX5_feeFor_126 : decode cX5_feeFor 126 = .ok (.ireturn, 1) := by decide +kernel
set_option maxRecDepth 20000 in
theorem ggX5_reckon_X8_at : GoodIn wsX5_reckon wsX8_at := goodIn_r _ [8, 9, 24, 25] rfl (by decide +kernel)
set_option maxRecDepth 20000 in
theorem gX5_reckon_X8_at : GoodIn wsX5_reckon (wsV RX5 40 RX8 yX8_at wsX8_at) := goodIn_app (goodIn_of _ (by decide +kernel)) ggX5_reckon_X8_at
set_option maxRecDepth 20000 in
theorem ggX5_reckon_X8_set : GoodIn wsX5_reckon wsX8_set := goodIn_r _ [13, 9, 24, 25] rfl (by decide +kernel)
set_option maxRecDepth 20000 in
theorem gX5_reckon_X8_set : GoodIn wsX5_reckon (wsV RX5 34 RX8 yX8_set wsX8_set) := goodIn_app (goodIn_of _ (by decide +kernel)) ggX5_reckon_X8_set
set_option maxRecDepth 20000 in
theorem ggX5_reckon_X5_joined : GoodIn wsX5_reckon wsX5_joined := goodIn_r _ [17] rfl (by decide +kernel)
set_option maxRecDepth 20000 in
theorem gX5_reckon_X5_joined : GoodIn wsX5_reckon (va_wsS RX5 57 yX5_joined wsX5_joined) := goodIn_app (goodIn_of _ (by decide +kernel)) ggX5_reckon_X5_joined
theorem dX5_reckon_0 : decode cX5_reckon 0 = .ok (.iload_n 1, 1) := by decide +kernel
theorem dX5_reckon_1 : decode cX5_reckon 1 = .ok (.bipush (-10), 2) := by decide +kernel
theorem dX5_reckon_3 : decode cX5_reckon 3 = .ok (.if_icmp .le 45, 3) := by decide +kernel
theorem dX5_reckon_6 : decode cX5_reckon 6 = .ok (.aload_n 0, 1) := by decide +kernel
theorem dX5_reckon_7 : decode cX5_reckon 7 = .ok (.getfield 23, 3) := by decide +kernel
theorem dX5_reckon_10 : decode cX5_reckon 10 = .ok (.aload_n 0, 1) := by decide +kernel
theorem dX5_reckon_11 : decode cX5_reckon 11 = .ok (.getfield 37, 3) := by decide +kernel
theorem dX5_reckon_14 : decode cX5_reckon 14 = .ok (.iload_n 1, 1) := by decide +kernel
theorem dX5_reckon_15 : decode cX5_reckon 15 = .ok (.ifCond .lt 7, 3) := by decide +kernel
theorem dX5_reckon_18 : decode cX5_reckon 18 = .ok (.iload_n 1, 1) := by decide +kernel
theorem dX5_reckon_19 : decode cX5_reckon 19 = .ok (.goto 13, 3) := by decide +kernel
theorem dX5_reckon_22 : decode cX5_reckon 22 = .ok (.aload_n 0, 1) := by decide +kernel
theorem dX5_reckon_23 : decode cX5_reckon 23 = .ok (.getfield 20, 3) := by decide +kernel
theorem dX5_reckon_26 : decode cX5_reckon 26 = .ok (.iconst (-1), 1) := by decide +kernel
theorem dX5_reckon_27 : decode cX5_reckon 27 = .ok (.iload_n 1, 1) := by decide +kernel
theorem dX5_reckon_28 : decode cX5_reckon 28 = .ok (.isub, 1) := by decide +kernel
theorem dX5_reckon_29 : decode cX5_reckon 29 = .ok (.invokevirtual 40, 3) := by decide +kernel
theorem dX5_reckon_32 : decode cX5_reckon 32 = .ok (.invokevirtual 34, 3) := by decide +kernel
theorem dX5_reckon_35 : decode cX5_reckon 35 = .ok (.aload_n 0, 1) := by decide +kernel
theorem dX5_reckon_36 : decode cX5_reckon 36 = .ok (.dup, 1) := by decide +kernel
theorem dX5_reckon_37 : decode cX5_reckon 37 = .ok (.getfield 37, 3) := by decide +kernel
theorem dX5_reckon_40 : decode cX5_reckon 40 = .ok (.iconst 1, 1) := by decide +kernel
theorem dX5_reckon_41 : decode cX5_reckon 41 = .ok (.iadd, 1) := by decide +kernel
theorem dX5_reckon_42 : decode cX5_reckon 42 = .ok (.putfield 37, 3) := by decide +kernel
theorem dX5_reckon_45 : decode cX5_reckon 45 = .ok (.goto 97, 3) := by decide +kernel
theorem dX5_reckon_48 : decode cX5_reckon 48 = .ok (.iload_n 1, 1) := by decide +kernel
theorem dX5_reckon_49 : decode cX5_reckon 49 = .ok (.bipush (-12), 2) := by decide +kernel
theorem dX5_reckon_51 : decode cX5_reckon 51 = .ok (.if_icmp .ne 40, 3) := by decide +kernel
theorem dX5_reckon_54 : decode cX5_reckon 54 = .ok (.aload_n 0, 1) := by decide +kernel
theorem dX5_reckon_55 : decode cX5_reckon 55 = .ok (.getfield 23, 3) := by decide +kernel
theorem dX5_reckon_58 : decode cX5_reckon 58 = .ok (.aload_n 0, 1) := by decide +kernel
theorem dX5_reckon_59 : decode cX5_reckon 59 = .ok (.getfield 37, 3) := by decide +kernel
theorem dX5_reckon_62 : decode cX5_reckon 62 = .ok (.iconst 1, 1) := by decide +kernel
theorem dX5_reckon_63 : decode cX5_reckon 63 = .ok (.isub, 1) := by decide +kernel
theorem dX5_reckon_64 : decode cX5_reckon 64 = .ok (.aload_n 0, 1) := by decide +kernel
theorem dX5_reckon_65 : decode cX5_reckon 65 = .ok (.getfield 23, 3) := by decide +kernel
theorem dX5_reckon_68 : decode cX5_reckon 68 = .ok (.aload_n 0, 1) := by decide +kernel
theorem dX5_reckon_69 : decode cX5_reckon 69 = .ok (.getfield 37, 3) := by decide +kernel
theorem dX5_reckon_72 : decode cX5_reckon 72 = .ok (.iconst 1, 1) := by decide +kernel
theorem dX5_reckon_73 : decode cX5_reckon 73 = .ok (.isub, 1) := by decide +kernel
theorem dX5_reckon_74 : decode cX5_reckon 74 = .ok (.invokevirtual 40, 3) := by decide +kernel
theorem dX5_reckon_77 : decode cX5_reckon 77 = .ok (.ifCond .ne 7, 3) := by decide +kernel
theorem dX5_reckon_80 : decode cX5_reckon 80 = .ok (.iconst 1, 1) := by decide +kernel
theorem dX5_reckon_81 : decode cX5_reckon 81 = .ok (.goto 4, 3) := by decide +kernel
theorem dX5_reckon_84 : decode cX5_reckon 84 = .ok (.iconst 0, 1) := by decide +kernel
theorem dX5_reckon_85 : decode cX5_reckon 85 = .ok (.invokevirtual 34, 3) := by decide +kernel
theorem dX5_reckon_88 : decode cX5_reckon 88 = .ok (.goto 54, 3) := by decide +kernel
theorem dX5_reckon_91 : decode cX5_reckon 91 = .ok (.aload_n 0, 1) := by decide +kernel
theorem dX5_reckon_92 : decode cX5_reckon 92 = .ok (.dup, 1) := by decide +kernel
theorem dX5_reckon_93 : decode cX5_reckon 93 = .ok (.getfield 37, 3) := by decide +kernel
theorem dX5_reckon_96 : decode cX5_reckon 96 = .ok (.iconst 1, 1) := by decide +kernel
theorem dX5_reckon_97 : decode cX5_reckon 97 = .ok (.isub, 1) := by decide +kernel
theorem dX5_reckon_98 : decode cX5_reckon 98 = .ok (.putfield 37, 3) := by decide +kernel
theorem dX5_reckon_101 : decode cX5_reckon 101 = .ok (.aload_n 0, 1) := by decide +kernel
theorem dX5_reckon_102 : decode cX5_reckon 102 = .ok (.getfield 23, 3) := by decide +kernel
theorem dX5_reckon_105 : decode cX5_reckon 105 = .ok (.aload_n 0, 1) := by decide +kernel
theorem dX5_reckon_106 : decode cX5_reckon 106 = .ok (.getfield 37, 3) := by decide +kernel
theorem dX5_reckon_109 : decode cX5_reckon 109 = .ok (.iconst 1, 1) := by decide +kernel
theorem dX5_reckon_110 : decode cX5_reckon 110 = .ok (.isub, 1) := by decide +kernel
theorem dX5_reckon_111 : decode cX5_reckon 111 = .ok (.iload_n 1, 1) := by decide +kernel
theorem dX5_reckon_112 : decode cX5_reckon 112 = .ok (.aload_n 0, 1) := by decide +kernel
theorem dX5_reckon_113 : decode cX5_reckon 113 = .ok (.getfield 23, 3) := by decide +kernel
theorem dX5_reckon_116 : decode cX5_reckon 116 = .ok (.aload_n 0, 1) := by decide +kernel
theorem dX5_reckon_117 : decode cX5_reckon 117 = .ok (.getfield 37, 3) := by decide +kernel
theorem dX5_reckon_120 : decode cX5_reckon 120 = .ok (.iconst 1, 1) := by decide +kernel
theorem dX5_reckon_121 : decode cX5_reckon 121 = .ok (.isub, 1) := by decide +kernel
theorem dX5_reckon_122 : decode cX5_reckon 122 = .ok (.invokevirtual 40, 3) := by decide +kernel
theorem dX5_reckon_125 : decode cX5_reckon 125 = .ok (.aload_n 0, 1) := by decide +kernel
theorem dX5_reckon_126 : decode cX5_reckon 126 = .ok (.getfield 23, 3) := by decide +kernel
theorem dX5_reckon_129 : decode cX5_reckon 129 = .ok (.aload_n 0, 1) := by decide +kernel
theorem dX5_reckon_130 : decode cX5_reckon 130 = .ok (.getfield 37, 3) := by decide +kernel
theorem dX5_reckon_133 : decode cX5_reckon 133 = .ok (.invokevirtual 40, 3) := by decide +kernel
theorem dX5_reckon_136 : decode cX5_reckon 136 = .ok (.invokestatic 57, 3) := by decide +kernel
theorem dX5_reckon_139 : decode cX5_reckon 139 = .ok (.invokevirtual 34, 3) := by decide +kernel
theorem dX5_reckon_142 : decode cX5_reckon 142 = .ok (.return_, 1) := by decide +kernel
theorem dX5_joined_0 : decode cX5_joined 0 = .ok (.iload_n 0, 1) := by decide +kernel
theorem dX5_joined_1 : decode cX5_joined 1 = .ok (.tableswitch 109 (-17) (-10) #[105, 101, 97, 86, 75, 109, 61, 47], 47) := by decide +kernel
theorem dX5_joined_48 : decode cX5_joined 48 = .ok (.iload_n 1, 1) := by decide +kernel
theorem dX5_joined_49 : decode cX5_joined 49 = .ok (.ifCond .ne 7, 3) := by decide +kernel
theorem dX5_joined_52 : decode cX5_joined 52 = .ok (.iload_n 2, 1) := by decide +kernel
theorem dX5_joined_53 : decode cX5_joined 53 = .ok (.ifCond .eq 7, 3) := by decide +kernel
theorem dX5_joined_56 : decode cX5_joined 56 = .ok (.iconst 1, 1) := by decide +kernel
theorem dX5_joined_57 : decode cX5_joined 57 = .ok (.goto 4, 3) := by decide +kernel
theorem dX5_joined_60 : decode cX5_joined 60 = .ok (.iconst 0, 1) := by decide +kernel
theorem dX5_joined_61 : decode cX5_joined 61 = .ok (.ireturn, 1) := by decide +kernel
theorem dX5_joined_62 : decode cX5_joined 62 = .ok (.iload_n 1, 1) := by decide +kernel
theorem dX5_joined_63 : decode cX5_joined 63 = .ok (.ifCond .eq 11, 3) := by decide +kernel
theorem dX5_joined_66 : decode cX5_joined 66 = .ok (.iload_n 2, 1) := by decide +kernel
theorem dX5_joined_67 : decode cX5_joined 67 = .ok (.ifCond .eq 7, 3) := by decide +kernel
theorem dX5_joined_70 : decode cX5_joined 70 = .ok (.iconst 1, 1) := by decide +kernel
theorem dX5_joined_71 : decode cX5_joined 71 = .ok (.goto 4, 3) := by decide +kernel
theorem dX5_joined_74 : decode cX5_joined 74 = .ok (.iconst 0, 1) := by decide +kernel
theorem dX5_joined_75 : decode cX5_joined 75 = .ok (.ireturn, 1) := by decide +kernel
theorem dX5_joined_76 : decode cX5_joined 76 = .ok (.iload_n 1, 1) := by decide +kernel
theorem dX5_joined_77 : decode cX5_joined 77 = .ok (.iload_n 2, 1) := by decide +kernel
theorem dX5_joined_78 : decode cX5_joined 78 = .ok (.if_icmp .ge 7, 3) := by decide +kernel
theorem dX5_joined_81 : decode cX5_joined 81 = .ok (.iconst 1, 1) := by decide +kernel
theorem dX5_joined_82 : decode cX5_joined 82 = .ok (.goto 4, 3) := by decide +kernel
theorem dX5_joined_85 : decode cX5_joined 85 = .ok (.iconst 0, 1) := by decide +kernel
theorem dX5_joined_86 : decode cX5_joined 86 = .ok (.ireturn, 1) := by decide +kernel
theorem dX5_joined_87 : decode cX5_joined 87 = .ok (.iload_n 1, 1) := by decide +kernel
theorem dX5_joined_88 : decode cX5_joined 88 = .ok (.iload_n 2, 1) := by decide +kernel
theorem dX5_joined_89 : decode cX5_joined 89 = .ok (.if_icmp .ne 7, 3) := by decide +kernel
theorem dX5_joined_92 : decode cX5_joined 92 = .ok (.iconst 1, 1) := by decide +kernel
theorem dX5_joined_93 : decode cX5_joined 93 = .ok (.goto 4, 3) := by decide +kernel
theorem dX5_joined_96 : decode cX5_joined 96 = .ok (.iconst 0, 1) := by decide +kernel
theorem dX5_joined_97 : decode cX5_joined 97 = .ok (.ireturn, 1) := by decide +kernel
theorem dX5_joined_98 : decode cX5_joined 98 = .ok (.iload_n 1, 1) := by decide +kernel
theorem dX5_joined_99 : decode cX5_joined 99 = .ok (.iload_n 2, 1) := by decide +kernel
theorem dX5_joined_100 : decode cX5_joined 100 = .ok (.iadd, 1) := by decide +kernel
theorem dX5_joined_101 : decode cX5_joined 101 = .ok (.ireturn, 1) := by decide +kernel
theorem dX5_joined_102 : decode cX5_joined 102 = .ok (.iload_n 1, 1) := by decide +kernel
theorem dX5_joined_103 : decode cX5_joined 103 = .ok (.iload_n 2, 1) := by decide +kernel
theorem dX5_joined_104 : decode cX5_joined 104 = .ok (.isub, 1) := by decide +kernel
theorem dX5_joined_105 : decode cX5_joined 105 = .ok (.ireturn, 1) := by decide +kernel
theorem dX5_joined_106 : decode cX5_joined 106 = .ok (.iload_n 1, 1) := by decide +kernel
theorem dX5_joined_107 : decode cX5_joined 107 = .ok (.iload_n 2, 1) := by decide +kernel
theorem dX5_joined_108 : decode cX5_joined 108 = .ok (.imul, 1) := by decide +kernel
theorem dX5_joined_109 : decode cX5_joined 109 = .ok (.ireturn, 1) := by decide +kernel
theorem dX5_joined_110 : decode cX5_joined 110 = .ok (.iload_n 2, 1) := by decide +kernel
theorem dX5_joined_111 : decode cX5_joined 111 = .ok (.ifCond .ne 7, 3) := by decide +kernel
theorem dX5_joined_114 : decode cX5_joined 114 = .ok (.iconst 0, 1) := by decide +kernel
theorem dX5_joined_115 : decode cX5_joined 115 = .ok (.goto 6, 3) := by decide +kernel
theorem dX5_joined_118 : decode cX5_joined 118 = .ok (.iload_n 1, 1) := by decide +kernel
theorem dX5_joined_119 : decode cX5_joined 119 = .ok (.iload_n 2, 1) := by decide +kernel
theorem dX5_joined_120 : decode cX5_joined 120 = .ok (.idiv, 1) := by decide +kernel
theorem dX5_joined_121 : decode cX5_joined 121 = .ok (.ireturn, 1) := by decide +kernel
