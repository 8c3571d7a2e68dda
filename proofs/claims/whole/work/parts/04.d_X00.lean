set_option maxRecDepth 20000 in
theorem ggX0_init_X8_init : GoodIn wsX0_init wsX8_init := goodIn_r _ [17, 18, 2, 3, 19, 20, 21, 22, 23, 24, 25, 34, 35] rfl (by decide +kernel)
set_option maxRecDepth 20000 in
theorem gX0_init_X8_init : GoodIn wsX0_init (wsX8_init) := ggX0_init_X8_init
set_option maxRecDepth 20000 in
theorem ggX0_init_X5_init : GoodIn wsX0_init wsX5_init := goodIn_r _ [27, 28, 2, 3, 29, 5, 6, 30, 31, 32, 33, 16, 17, 18, 19, 20, 21, 22, 23, 24, 25, 34, 35, 48, 49, 50, 51, 52, 53] rfl (by decide +kernel)
set_option maxRecDepth 20000 in
theorem gX0_init_X5_init_n31 : GoodIn wsX0_init (wsX5_init) := ggX0_init_X5_init
theorem dX0_init_0 : decode cX0_init 0 = .ok (.aload_n 0, 1) := by decide +kernel
theorem dX0_init_1 : decode cX0_init 1 = .ok (.invokespecial 3, 3) := by decide +kernel
theorem dX0_init_4 : decode cX0_init 4 = .ok (.aload_n 0, 1) := by decide +kernel
theorem dX0_init_5 : decode cX0_init 5 = .ok (.new 9, 3) := by decide +kernel
theorem dX0_init_8 : decode cX0_init 8 = .ok (.dup, 1) := by decide +kernel
theorem dX0_init_9 : decode cX0_init 9 = .ok (.iconst 4, 1) := by decide +kernel
theorem dX0_init_10 : decode cX0_init 10 = .ok (.iconst 3, 1) := by decide +kernel
theorem dX0_init_11 : decode cX0_init 11 = .ok (.invokespecial 11, 3) := by decide +kernel
theorem dX0_init_14 : decode cX0_init 14 = .ok (.putfield 14, 3) := by decide +kernel
theorem dX0_init_17 : decode cX0_init 17 = .ok (.aload_n 0, 1) := by decide +kernel
theorem dX0_init_18 : decode cX0_init 18 = .ok (.new 9, 3) := by decide +kernel
theorem dX0_init_21 : decode cX0_init 21 = .ok (.dup, 1) := by decide +kernel
theorem dX0_init_22 : decode cX0_init 22 = .ok (.iconst 5, 1) := by decide +kernel
theorem dX0_init_23 : decode cX0_init 23 = .ok (.iconst 5, 1) := by decide +kernel
theorem dX0_init_24 : decode cX0_init 24 = .ok (.invokespecial 11, 3) := by decide +kernel
theorem dX0_init_27 : decode cX0_init 27 = .ok (.putfield 20, 3) := by decide +kernel
theorem dX0_init_30 : decode cX0_init 30 = .ok (.aload_n 0, 1) := by decide +kernel
theorem dX0_init_31 : decode cX0_init 31 = .ok (.new 9, 3) := by decide +kernel
theorem dX0_init_34 : decode cX0_init 34 = .ok (.dup, 1) := by decide +kernel
theorem dX0_init_35 : decode cX0_init 35 = .ok (.bipush 12, 2) := by decide +kernel
theorem dX0_init_37 : decode cX0_init 37 = .ok (.bipush 7, 2) := by decide +kernel
theorem dX0_init_39 : decode cX0_init 39 = .ok (.invokespecial 11, 3) := by decide +kernel
theorem dX0_init_42 : decode cX0_init 42 = .ok (.putfield 23, 3) := by decide +kernel
theorem dX0_init_45 : decode cX0_init 45 = .ok (.aload_n 0, 1) := by decide +kernel
theorem dX0_init_46 : decode cX0_init 46 = .ok (.new 9, 3) := by decide +kernel
theorem dX0_init_49 : decode cX0_init 49 = .ok (.dup, 1) := by decide +kernel
theorem dX0_init_50 : decode cX0_init 50 = .ok (.bipush 6, 2) := by decide +kernel
theorem dX0_init_52 : decode cX0_init 52 = .ok (.iconst 2, 1) := by decide +kernel
theorem dX0_init_53 : decode cX0_init 53 = .ok (.invokespecial 11, 3) := by decide +kernel
theorem dX0_init_56 : decode cX0_init 56 = .ok (.putfield 26, 3) := by decide +kernel
theorem dX0_init_59 : decode cX0_init 59 = .ok (.aload_n 0, 1) := by decide +kernel
theorem dX0_init_60 : decode cX0_init 60 = .ok (.new 29, 3) := by decide +kernel
theorem dX0_init_63 : decode cX0_init 63 = .ok (.dup, 1) := by decide +kernel
theorem dX0_init_64 : decode cX0_init 64 = .ok (.invokespecial 31, 3) := by decide +kernel
theorem dX0_init_67 : decode cX0_init 67 = .ok (.putfield 32, 3) := by decide +kernel
theorem dX0_init_70 : decode cX0_init 70 = .ok (.return_, 1) := by decide +kernel
set_option maxRecDepth 20000 in
theorem ggX0_clear_X5_clear : GoodIn wsX0_clear wsX5_clear := goodIn_r _ [13, 14, 15, 28, 29, 30, 31, 32, 33] rfl (by decide +kernel)
set_option maxRecDepth 20000 in
theorem gX0_clear_X5_clear : GoodIn wsX0_clear (wsV RX0 36 RX5 yX5_clear wsX5_clear) := goodIn_app (goodIn_of _ (by decide +kernel)) ggX0_clear_X5_clear
theorem dX0_clear_0 : decode cX0_clear 0 = .ok (.aload_n 0, 1) := by decide +kernel
theorem dX0_clear_1 : decode cX0_clear 1 = .ok (.getfield 32, 3) := by decide +kernel
theorem dX0_clear_4 : decode cX0_clear 4 = .ok (.invokevirtual 36, 3) := by decide +kernel
theorem dX0_clear_7 : decode cX0_clear 7 = .ok (.aload_n 0, 1) := by decide +kernel
theorem dX0_clear_8 : decode cX0_clear 8 = .ok (.iconst 0, 1) := by decide +kernel
theorem dX0_clear_9 : decode cX0_clear 9 = .ok (.putfield 39, 3) := by decide +kernel
theorem dX0_clear_12 : decode cX0_clear 12 = .ok (.aload_n 0, 1) := by decide +kernel
theorem dX0_clear_13 : decode cX0_clear 13 = .ok (.iconst 0, 1) := by decide +kernel
theorem dX0_clear_14 : decode cX0_clear 14 = .ok (.putfield 43, 3) := by decide +kernel
theorem dX0_clear_17 : decode cX0_clear 17 = .ok (.aload_n 0, 1) := by decide +kernel
theorem dX0_clear_18 : decode cX0_clear 18 = .ok (.iconst 0, 1) := by decide +kernel
theorem dX0_clear_19 : decode cX0_clear 19 = .ok (.putfield 46, 3) := by decide +kernel
theorem dX0_clear_22 : decode cX0_clear 22 = .ok (.aload_n 0, 1) := by decide +kernel
theorem dX0_clear_23 : decode cX0_clear 23 = .ok (.iconst 0, 1) := by decide +kernel
theorem dX0_clear_24 : decode cX0_clear 24 = .ok (.putfield 49, 3) := by decide +kernel
theorem dX0_clear_27 : decode cX0_clear 27 = .ok (.aload_n 0, 1) := by decide +kernel
theorem dX0_clear_28 : decode cX0_clear 28 = .ok (.iconst 0, 1) := by decide +kernel
theorem dX0_clear_29 : decode cX0_clear 29 = .ok (.putfield 52, 3) := by decide +kernel
theorem dX0_clear_32 : decode cX0_clear 32 = .ok (.aload_n 0, 1) := by decide +kernel
theorem dX0_clear_33 : decode cX0_clear 33 = .ok (.iconst 0, 1) := by decide +kernel
theorem dX0_clear_34 : decode cX0_clear 34 = .ok (.putfield 56, 3) := by decide +kernel
theorem dX0_clear_37 : decode cX0_clear 37 = .ok (.aload_n 0, 1) := by decide +kernel
theorem dX0_clear_38 : decode cX0_clear 38 = .ok (.iconst 0, 1) := by decide +kernel
theorem dX0_clear_39 : decode cX0_clear 39 = .ok (.putfield 59, 3) := by decide +kernel
theorem dX0_clear_42 : decode cX0_clear 42 = .ok (.return_, 1) := by decide +kernel
set_option maxRecDepth 20000 in
theorem ggX0_priceOf_X8_at_ : GoodIn wsX0_priceOf wsX8_at_ := goodIn_r _ [8, 9, 10, 23, 24] rfl (by decide +kernel)
set_option maxRecDepth 20000 in
theorem gX0_priceOf_X8_at_ : GoodIn wsX0_priceOf (wsV RX0 62 RX8 yX8_at_ wsX8_at_) := goodIn_app (goodIn_of _ (by decide +kernel)) ggX0_priceOf_X8_at_
theorem dX0_priceOf_0 : decode cX0_priceOf 0 = .ok (.aload_n 0, 1) := by decide +kernel
theorem dX0_priceOf_1 : decode cX0_priceOf 1 = .ok (.getfield 23, 3) := by decide +kernel
theorem dX0_priceOf_4 : decode cX0_priceOf 4 = .ok (.iload_n 1, 1) := by decide +kernel
theorem dX0_priceOf_5 : decode cX0_priceOf 5 = .ok (.iconst 1, 1) := by decide +kernel
theorem dX0_priceOf_6 : decode cX0_priceOf 6 = .ok (.invokevirtual 62, 3) := by decide +kernel
theorem dX0_priceOf_9 : decode cX0_priceOf 9 = .ok (.istore_n 2, 1) := by decide +kernel
theorem dX0_priceOf_10 : decode cX0_priceOf 10 = .ok (.iconst 0, 1) := by decide +kernel
theorem dX0_priceOf_11 : decode cX0_priceOf 11 = .ok (.istore_n 3, 1) := by decide +kernel
theorem dX0_priceOf_12 : decode cX0_priceOf 12 = .ok (.iload_n 3, 1) := by decide +kernel
theorem dX0_priceOf_13 : decode cX0_priceOf 13 = .ok (.aload_n 0, 1) := by decide +kernel
theorem dX0_priceOf_14 : decode cX0_priceOf 14 = .ok (.getfield 49, 3) := by decide +kernel
theorem dX0_priceOf_17 : decode cX0_priceOf 17 = .ok (.if_icmp .ge 32, 3) := by decide +kernel
theorem dX0_priceOf_20 : decode cX0_priceOf 20 = .ok (.iload_n 2, 1) := by decide +kernel
theorem dX0_priceOf_21 : decode cX0_priceOf 21 = .ok (.aload_n 0, 1) := by decide +kernel
theorem dX0_priceOf_22 : decode cX0_priceOf 22 = .ok (.getfield 26, 3) := by decide +kernel
theorem dX0_priceOf_25 : decode cX0_priceOf 25 = .ok (.iload_n 3, 1) := by decide +kernel
theorem dX0_priceOf_26 : decode cX0_priceOf 26 = .ok (.iconst 0, 1) := by decide +kernel
theorem dX0_priceOf_27 : decode cX0_priceOf 27 = .ok (.invokevirtual 62, 3) := by decide +kernel
theorem dX0_priceOf_30 : decode cX0_priceOf 30 = .ok (.if_icmp .gt 13, 3) := by decide +kernel
theorem dX0_priceOf_33 : decode cX0_priceOf 33 = .ok (.aload_n 0, 1) := by decide +kernel
theorem dX0_priceOf_34 : decode cX0_priceOf 34 = .ok (.getfield 26, 3) := by decide +kernel
theorem dX0_priceOf_37 : decode cX0_priceOf 37 = .ok (.iload_n 3, 1) := by decide +kernel
theorem dX0_priceOf_38 : decode cX0_priceOf 38 = .ok (.iconst 1, 1) := by decide +kernel
theorem dX0_priceOf_39 : decode cX0_priceOf 39 = .ok (.invokevirtual 62, 3) := by decide +kernel
theorem dX0_priceOf_42 : decode cX0_priceOf 42 = .ok (.ireturn, 1) := by decide +kernel
theorem dX0_priceOf_43 : decode cX0_priceOf 43 = .ok (.iinc 3 1, 3) := by decide +kernel
theorem dX0_priceOf_46 : decode cX0_priceOf 46 = .ok (.goto (-34), 3) := by decide +kernel
theorem dX0_priceOf_49 : decode cX0_priceOf 49 = .ok (.iconst (-1), 1) := by decide +kernel
theorem dX0_priceOf_50 : decode cX0_priceOf 50 = .ok (.ireturn, 1) := by decide +kernel
set_option maxRecDepth 20000 in
theorem ggX0_sumOf_X8_at_ : GoodIn wsX0_sumOf wsX8_at_ := goodIn_r _ [7, 8, 9, 22, 23] rfl (by decide +kernel)
set_option maxRecDepth 20000 in
theorem gX0_sumOf_X8_at_ : GoodIn wsX0_sumOf (wsV RX0 62 RX8 yX8_at_ wsX8_at_) := goodIn_app (goodIn_of _ (by decide +kernel)) ggX0_sumOf_X8_at_
theorem dX0_sumOf_0 : decode cX0_sumOf 0 = .ok (.iconst 0, 1) := by decide +kernel
theorem dX0_sumOf_1 : decode cX0_sumOf 1 = .ok (.istore_n 3, 1) := by decide +kernel
theorem dX0_sumOf_2 : decode cX0_sumOf 2 = .ok (.iconst 0, 1) := by decide +kernel
theorem dX0_sumOf_3 : decode cX0_sumOf 3 = .ok (.istore 4, 2) := by decide +kernel
theorem dX0_sumOf_5 : decode cX0_sumOf 5 = .ok (.iload 4, 2) := by decide +kernel
theorem dX0_sumOf_7 : decode cX0_sumOf 7 = .ok (.aload_n 0, 1) := by decide +kernel
theorem dX0_sumOf_8 : decode cX0_sumOf 8 = .ok (.getfield 46, 3) := by decide +kernel
theorem dX0_sumOf_11 : decode cX0_sumOf 11 = .ok (.if_icmp .ge 31, 3) := by decide +kernel
theorem dX0_sumOf_14 : decode cX0_sumOf 14 = .ok (.iload_n 1, 1) := by decide +kernel
theorem dX0_sumOf_15 : decode cX0_sumOf 15 = .ok (.iload 4, 2) := by decide +kernel
theorem dX0_sumOf_17 : decode cX0_sumOf 17 = .ok (.ishr, 1) := by decide +kernel
theorem dX0_sumOf_18 : decode cX0_sumOf 18 = .ok (.iconst 1, 1) := by decide +kernel
theorem dX0_sumOf_19 : decode cX0_sumOf 19 = .ok (.iand, 1) := by decide +kernel
theorem dX0_sumOf_20 : decode cX0_sumOf 20 = .ok (.ifCond .eq 16, 3) := by decide +kernel
theorem dX0_sumOf_23 : decode cX0_sumOf 23 = .ok (.iload_n 3, 1) := by decide +kernel
theorem dX0_sumOf_24 : decode cX0_sumOf 24 = .ok (.aload_n 0, 1) := by decide +kernel
theorem dX0_sumOf_25 : decode cX0_sumOf 25 = .ok (.getfield 23, 3) := by decide +kernel
theorem dX0_sumOf_28 : decode cX0_sumOf 28 = .ok (.iload 4, 2) := by decide +kernel
theorem dX0_sumOf_30 : decode cX0_sumOf 30 = .ok (.iload_n 2, 1) := by decide +kernel
theorem dX0_sumOf_31 : decode cX0_sumOf 31 = .ok (.invokevirtual 62, 3) := by decide +kernel
theorem dX0_sumOf_34 : decode cX0_sumOf 34 = .ok (.iadd, 1) := by decide +kernel
theorem dX0_sumOf_35 : decode cX0_sumOf 35 = .ok (.istore_n 3, 1) := by decide +kernel
theorem dX0_sumOf_36 : decode cX0_sumOf 36 = .ok (.iinc 4 1, 3) := by decide +kernel
theorem dX0_sumOf_39 : decode cX0_sumOf 39 = .ok (.goto (-34), 3) := by decide +kernel
theorem dX0_sumOf_42 : decode cX0_sumOf 42 = .ok (.iload_n 3, 1) := by decide +kernel
theorem dX0_sumOf_43 : decode cX0_sumOf 43 = .ok (.ireturn, 1) := by decide +kernel
set_option maxRecDepth 20000 in
theorem ggX0_ofKind_X8_at_ : GoodIn wsX0_ofKind wsX8_at_ := goodIn_r _ [7, 8, 9, 22, 23] rfl (by decide +kernel)
set_option maxRecDepth 20000 in
theorem gX0_ofKind_X8_at_ : GoodIn wsX0_ofKind (wsV RX0 62 RX8 yX8_at_ wsX8_at_) := goodIn_app (goodIn_of _ (by decide +kernel)) ggX0_ofKind_X8_at_
theorem dX0_ofKind_0 : decode cX0_ofKind 0 = .ok (.iconst 0, 1) := by decide +kernel
theorem dX0_ofKind_1 : decode cX0_ofKind 1 = .ok (.istore_n 2, 1) := by decide +kernel
theorem dX0_ofKind_2 : decode cX0_ofKind 2 = .ok (.iconst 0, 1) := by decide +kernel
theorem dX0_ofKind_3 : decode cX0_ofKind 3 = .ok (.istore_n 3, 1) := by decide +kernel
theorem dX0_ofKind_4 : decode cX0_ofKind 4 = .ok (.iload_n 3, 1) := by decide +kernel
theorem dX0_ofKind_5 : decode cX0_ofKind 5 = .ok (.aload_n 0, 1) := by decide +kernel
theorem dX0_ofKind_6 : decode cX0_ofKind 6 = .ok (.getfield 46, 3) := by decide +kernel
theorem dX0_ofKind_9 : decode cX0_ofKind 9 = .ok (.if_icmp .ge 28, 3) := by decide +kernel
theorem dX0_ofKind_12 : decode cX0_ofKind 12 = .ok (.aload_n 0, 1) := by decide +kernel
theorem dX0_ofKind_13 : decode cX0_ofKind 13 = .ok (.getfield 23, 3) := by decide +kernel
theorem dX0_ofKind_16 : decode cX0_ofKind 16 = .ok (.iload_n 3, 1) := by decide +kernel
theorem dX0_ofKind_17 : decode cX0_ofKind 17 = .ok (.iconst 0, 1) := by decide +kernel
theorem dX0_ofKind_18 : decode cX0_ofKind 18 = .ok (.invokevirtual 62, 3) := by decide +kernel
theorem dX0_ofKind_21 : decode cX0_ofKind 21 = .ok (.iload_n 1, 1) := by decide +kernel
theorem dX0_ofKind_22 : decode cX0_ofKind 22 = .ok (.if_icmp .ne 9, 3) := by decide +kernel
theorem dX0_ofKind_25 : decode cX0_ofKind 25 = .ok (.iload_n 2, 1) := by decide +kernel
theorem dX0_ofKind_26 : decode cX0_ofKind 26 = .ok (.iconst 1, 1) := by decide +kernel
theorem dX0_ofKind_27 : decode cX0_ofKind 27 = .ok (.iload_n 3, 1) := by decide +kernel
theorem dX0_ofKind_28 : decode cX0_ofKind 28 = .ok (.ishl, 1) := by decide +kernel
theorem dX0_ofKind_29 : decode cX0_ofKind 29 = .ok (.ior, 1) := by decide +kernel
theorem dX0_ofKind_30 : decode cX0_ofKind 30 = .ok (.istore_n 2, 1) := by decide +kernel
theorem dX0_ofKind_31 : decode cX0_ofKind 31 = .ok (.iinc 3 1, 3) := by decide +kernel
theorem dX0_ofKind_34 : decode cX0_ofKind 34 = .ok (.goto (-30), 3) := by decide +kernel
theorem dX0_ofKind_37 : decode cX0_ofKind 37 = .ok (.iload_n 2, 1) := by decide +kernel
theorem dX0_ofKind_38 : decode cX0_ofKind 38 = .ok (.ireturn, 1) := by decide +kernel
set_option maxRecDepth 20000 in
theorem ggX0_hasKind_X0_ofKind : GoodIn wsX0_hasKind wsX0_ofKind := goodIn_r _ [5, 6, 7, 8, 9, 10, 11, 12, 13, 14, 15, 16, 17, 18, 19, 20, 21, 22, 23, 24, 25, 26, 27, 28] rfl (by decide +kernel)
set_option maxRecDepth 20000 in
theorem gX0_hasKind_X0_ofKind : GoodIn wsX0_hasKind (wsV RX0 66 RX0 yX0_ofKind wsX0_ofKind) := goodIn_app (goodIn_of _ (by decide +kernel)) ggX0_hasKind_X0_ofKind
theorem dX0_hasKind_0 : decode cX0_hasKind 0 = .ok (.iload_n 1, 1) := by decide +kernel
theorem dX0_hasKind_1 : decode cX0_hasKind 1 = .ok (.aload_n 0, 1) := by decide +kernel
theorem dX0_hasKind_2 : decode cX0_hasKind 2 = .ok (.iload_n 2, 1) := by decide +kernel
theorem dX0_hasKind_3 : decode cX0_hasKind 3 = .ok (.invokevirtual 66, 3) := by decide +kernel
theorem dX0_hasKind_6 : decode cX0_hasKind 6 = .ok (.iand, 1) := by decide +kernel
theorem dX0_hasKind_7 : decode cX0_hasKind 7 = .ok (.ifCond .eq 7, 3) := by decide +kernel
theorem dX0_hasKind_10 : decode cX0_hasKind 10 = .ok (.iconst 1, 1) := by decide +kernel
theorem dX0_hasKind_11 : decode cX0_hasKind 11 = .ok (.goto 4, 3) := by decide +kernel
theorem dX0_hasKind_14 : decode cX0_hasKind 14 = .ok (.iconst 0, 1) := by decide +kernel
theorem dX0_hasKind_15 : decode cX0_hasKind 15 = .ok (.ireturn, 1) := by decide +kernel
set_option maxRecDepth 20000 in
theorem ggX0_goesWith_X0_sumOf : GoodIn wsX0_goesWith wsX0_sumOf := goodIn_r _ [6, 7, 8, 9, 10, 11, 12, 13, 14, 15, 20, 21, 22, 23, 24, 25, 26, 27, 28, 29, 30, 31, 32, 33] rfl (by decide +kernel)
set_option maxRecDepth 20000 in
theorem gX0_goesWith_X0_sumOf : GoodIn wsX0_goesWith (wsV RX0 70 RX0 yX0_sumOf wsX0_sumOf) := goodIn_app (goodIn_of _ (by decide +kernel)) ggX0_goesWith_X0_sumOf
set_option maxRecDepth 20000 in
theorem ggX0_goesWith_X8_at_ : GoodIn wsX0_goesWith wsX8_at_ := goodIn_r _ [13, 14, 15, 32, 33] rfl (by decide +kernel)
set_option maxRecDepth 20000 in
theorem gX0_goesWith_X8_at_ : GoodIn wsX0_goesWith (wsV RX0 62 RX8 yX8_at_ wsX8_at_) := goodIn_app (goodIn_of _ (by decide +kernel)) ggX0_goesWith_X8_at_
set_option maxRecDepth 20000 in
theorem ggX0_goesWith_X0_ofKind : GoodIn wsX0_goesWith wsX0_ofKind := goodIn_r _ [19, 7, 8, 9, 10, 11, 12, 13, 14, 15, 20, 21, 22, 23, 24, 25, 26, 27, 28, 29, 30, 31, 32, 33] rfl (by decide +kernel)
set_option maxRecDepth 20000 in
theorem gX0_goesWith_X0_ofKind : GoodIn wsX0_goesWith (wsV RX0 66 RX0 yX0_ofKind wsX0_ofKind) := goodIn_app (goodIn_of _ (by decide +kernel)) ggX0_goesWith_X0_ofKind
theorem dX0_goesWith_0 : decode cX0_goesWith 0 = .ok (.aload_n 0, 1) := by decide +kernel
theorem dX0_goesWith_1 : decode cX0_goesWith 1 = .ok (.iload_n 2, 1) := by decide +kernel
theorem dX0_goesWith_2 : decode cX0_goesWith 2 = .ok (.iconst 1, 1) := by decide +kernel
theorem dX0_goesWith_3 : decode cX0_goesWith 3 = .ok (.invokevirtual 70, 3) := by decide +kernel
theorem dX0_goesWith_6 : decode cX0_goesWith 6 = .ok (.aload_n 0, 1) := by decide +kernel
theorem dX0_goesWith_7 : decode cX0_goesWith 7 = .ok (.getfield 20, 3) := by decide +kernel
theorem dX0_goesWith_10 : decode cX0_goesWith 10 = .ok (.iload_n 1, 1) := by decide +kernel
theorem dX0_goesWith_11 : decode cX0_goesWith 11 = .ok (.iconst 1, 1) := by decide +kernel
theorem dX0_goesWith_12 : decode cX0_goesWith 12 = .ok (.invokevirtual 62, 3) := by decide +kernel
theorem dX0_goesWith_15 : decode cX0_goesWith 15 = .ok (.if_icmp .gt 47, 3) := by decide +kernel
theorem dX0_goesWith_18 : decode cX0_goesWith 18 = .ok (.aload_n 0, 1) := by decide +kernel
theorem dX0_goesWith_19 : decode cX0_goesWith 19 = .ok (.iload_n 2, 1) := by decide +kernel
theorem dX0_goesWith_20 : decode cX0_goesWith 20 = .ok (.iconst 3, 1) := by decide +kernel
theorem dX0_goesWith_21 : decode cX0_goesWith 21 = .ok (.invokevirtual 70, 3) := by decide +kernel
theorem dX0_goesWith_24 : decode cX0_goesWith 24 = .ok (.aload_n 0, 1) := by decide +kernel
theorem dX0_goesWith_25 : decode cX0_goesWith 25 = .ok (.getfield 20, 3) := by decide +kernel
theorem dX0_goesWith_28 : decode cX0_goesWith 28 = .ok (.iload_n 1, 1) := by decide +kernel
theorem dX0_goesWith_29 : decode cX0_goesWith 29 = .ok (.iconst 2, 1) := by decide +kernel
theorem dX0_goesWith_30 : decode cX0_goesWith 30 = .ok (.invokevirtual 62, 3) := by decide +kernel
theorem dX0_goesWith_33 : decode cX0_goesWith 33 = .ok (.if_icmp .gt 29, 3) := by decide +kernel
theorem dX0_goesWith_36 : decode cX0_goesWith 36 = .ok (.aload_n 0, 1) := by decide +kernel
theorem dX0_goesWith_37 : decode cX0_goesWith 37 = .ok (.getfield 20, 3) := by decide +kernel
theorem dX0_goesWith_40 : decode cX0_goesWith 40 = .ok (.iload_n 1, 1) := by decide +kernel
theorem dX0_goesWith_41 : decode cX0_goesWith 41 = .ok (.iconst 4, 1) := by decide +kernel
theorem dX0_goesWith_42 : decode cX0_goesWith 42 = .ok (.invokevirtual 62, 3) := by decide +kernel
theorem dX0_goesWith_45 : decode cX0_goesWith 45 = .ok (.ifCond .eq 13, 3) := by decide +kernel
theorem dX0_goesWith_48 : decode cX0_goesWith 48 = .ok (.iload_n 2, 1) := by decide +kernel
theorem dX0_goesWith_49 : decode cX0_goesWith 49 = .ok (.aload_n 0, 1) := by decide +kernel
theorem dX0_goesWith_50 : decode cX0_goesWith 50 = .ok (.iconst 2, 1) := by decide +kernel
theorem dX0_goesWith_51 : decode cX0_goesWith 51 = .ok (.invokevirtual 66, 3) := by decide +kernel
theorem dX0_goesWith_54 : decode cX0_goesWith 54 = .ok (.iand, 1) := by decide +kernel
theorem dX0_goesWith_55 : decode cX0_goesWith 55 = .ok (.ifCond .ne 7, 3) := by decide +kernel
theorem dX0_goesWith_58 : decode cX0_goesWith 58 = .ok (.iconst 1, 1) := by decide +kernel
theorem dX0_goesWith_59 : decode cX0_goesWith 59 = .ok (.goto 4, 3) := by decide +kernel
theorem dX0_goesWith_62 : decode cX0_goesWith 62 = .ok (.iconst 0, 1) := by decide +kernel
theorem dX0_goesWith_63 : decode cX0_goesWith 63 = .ok (.ireturn, 1) := by decide +kernel
