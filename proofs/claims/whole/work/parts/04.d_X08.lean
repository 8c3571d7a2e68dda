theorem dX8_init_0 : decode cX8_init 0 = .ok (.aload_n 0, 1) := by decide +kernel
theorem dX8_init_1 : decode cX8_init 1 = .ok (.invokespecial 1, 3) := by decide +kernel
theorem dX8_init_4 : decode cX8_init 4 = .ok (.aload_n 0, 1) := by decide +kernel
theorem dX8_init_5 : decode cX8_init 5 = .ok (.iload_n 2, 1) := by decide +kernel
theorem dX8_init_6 : decode cX8_init 6 = .ok (.putfield 7, 3) := by decide +kernel
theorem dX8_init_9 : decode cX8_init 9 = .ok (.aload_n 0, 1) := by decide +kernel
theorem dX8_init_10 : decode cX8_init 10 = .ok (.iconst 0, 1) := by decide +kernel
theorem dX8_init_11 : decode cX8_init 11 = .ok (.iload_n 1, 1) := by decide +kernel
theorem dX8_init_12 : decode cX8_init 12 = .ok (.iload_n 2, 1) := by decide +kernel
theorem dX8_init_13 : decode cX8_init 13 = .ok (.imul, 1) := by decide +kernel
theorem dX8_init_14 : decode cX8_init 14 = .ok (.invokestatic 13, 3) := by decide +kernel
theorem dX8_init_17 : decode cX8_init 17 = .ok (.newarray .int, 2) := by decide +kernel
theorem dX8_init_19 : decode cX8_init 19 = .ok (.putfield 19, 3) := by decide +kernel
theorem dX8_init_22 : decode cX8_init 22 = .ok (.return_, 1) := by decide +kernel
theorem dX8_at_0 : decode cX8_at 0 = .ok (.iload_n 1, 1) := by decide +kernel
theorem dX8_at_1 : decode cX8_at 1 = .ok (.ifCond .lt 21, 3) := by decide +kernel
theorem dX8_at_4 : decode cX8_at 4 = .ok (.iload_n 1, 1) := by decide +kernel
theorem dX8_at_5 : decode cX8_at 5 = .ok (.aload_n 0, 1) := by decide +kernel
theorem dX8_at_6 : decode cX8_at 6 = .ok (.getfield 19, 3) := by decide +kernel
theorem dX8_at_9 : decode cX8_at 9 = .ok (.arraylength, 1) := by decide +kernel
theorem dX8_at_10 : decode cX8_at 10 = .ok (.if_icmp .ge 12, 3) := by decide +kernel
theorem dX8_at_13 : decode cX8_at 13 = .ok (.aload_n 0, 1) := by decide +kernel
theorem dX8_at_14 : decode cX8_at 14 = .ok (.getfield 19, 3) := by decide +kernel
theorem dX8_at_17 : decode cX8_at 17 = .ok (.iload_n 1, 1) := by decide +kernel
theorem dX8_at_18 : decode cX8_at 18 = .ok (.iaload, 1) := by decide +kernel
theorem dX8_at_19 : decode cX8_at 19 = .ok (.goto 4, 3) := by decide +kernel
theorem dX8_at_22 : decode cX8_at 22 = .ok (.iconst 0, 1) := by decide +kernel
theorem dX8_at_23 : decode cX8_at 23 = .ok (.ireturn, 1) := by decide +kernel
theorem dX8_at__0 : decode cX8_at_ 0 = .ok (.iload_n 1, 1) := by decide +kernel
theorem dX8_at__1 : decode cX8_at_ 1 = .ok (.aload_n 0, 1) := by decide +kernel
theorem dX8_at__2 : decode cX8_at_ 2 = .ok (.getfield 7, 3) := by decide +kernel
theorem dX8_at__5 : decode cX8_at_ 5 = .ok (.imul, 1) := by decide +kernel
theorem dX8_at__6 : decode cX8_at_ 6 = .ok (.iload_n 2, 1) := by decide +kernel
theorem dX8_at__7 : decode cX8_at_ 7 = .ok (.iadd, 1) := by decide +kernel
theorem dX8_at__8 : decode cX8_at_ 8 = .ok (.istore_n 3, 1) := by decide +kernel
theorem dX8_at__9 : decode cX8_at_ 9 = .ok (.iload_n 3, 1) := by decide +kernel
theorem dX8_at__10 : decode cX8_at_ 10 = .ok (.ifCond .lt 21, 3) := by decide +kernel
theorem dX8_at__13 : decode cX8_at_ 13 = .ok (.iload_n 3, 1) := by decide +kernel
theorem dX8_at__14 : decode cX8_at_ 14 = .ok (.aload_n 0, 1) := by decide +kernel
theorem dX8_at__15 : decode cX8_at_ 15 = .ok (.getfield 19, 3) := by decide +kernel
theorem dX8_at__18 : decode cX8_at_ 18 = .ok (.arraylength, 1) := by decide +kernel
theorem dX8_at__19 : decode cX8_at_ 19 = .ok (.if_icmp .ge 12, 3) := by decide +kernel
theorem dX8_at__22 : decode cX8_at_ 22 = .ok (.aload_n 0, 1) := by decide +kernel
theorem dX8_at__23 : decode cX8_at_ 23 = .ok (.getfield 19, 3) := by decide +kernel
theorem dX8_at__26 : decode cX8_at_ 26 = .ok (.iload_n 3, 1) := by decide +kernel
theorem dX8_at__27 : decode cX8_at_ 27 = .ok (.iaload, 1) := by decide +kernel
theorem dX8_at__28 : decode cX8_at_ 28 = .ok (.goto 4, 3) := by decide +kernel
theorem dX8_at__31 : decode cX8_at_ 31 = .ok (.iconst 0, 1) := by decide +kernel
theorem dX8_at__32 : decode cX8_at_ 32 = .ok (.ireturn, 1) := by decide +kernel
theorem dX8_set_0 : decode cX8_set 0 = .ok (.iload_n 1, 1) := by decide +kernel
theorem dX8_set_1 : decode cX8_set 1 = .ok (.ifCond .lt 19, 3) := by decide +kernel
theorem dX8_set_4 : decode cX8_set 4 = .ok (.iload_n 1, 1) := by decide +kernel
theorem dX8_set_5 : decode cX8_set 5 = .ok (.aload_n 0, 1) := by decide +kernel
theorem dX8_set_6 : decode cX8_set 6 = .ok (.getfield 19, 3) := by decide +kernel
theorem dX8_set_9 : decode cX8_set 9 = .ok (.arraylength, 1) := by decide +kernel
theorem dX8_set_10 : decode cX8_set 10 = .ok (.if_icmp .ge 10, 3) := by decide +kernel
theorem dX8_set_13 : decode cX8_set 13 = .ok (.aload_n 0, 1) := by decide +kernel
theorem dX8_set_14 : decode cX8_set 14 = .ok (.getfield 19, 3) := by decide +kernel
theorem dX8_set_17 : decode cX8_set 17 = .ok (.iload_n 1, 1) := by decide +kernel
theorem dX8_set_18 : decode cX8_set 18 = .ok (.iload_n 2, 1) := by decide +kernel
theorem dX8_set_19 : decode cX8_set 19 = .ok (.iastore, 1) := by decide +kernel
theorem dX8_set_20 : decode cX8_set 20 = .ok (.return_, 1) := by decide +kernel
theorem dX8_set__0 : decode cX8_set_ 0 = .ok (.iload_n 1, 1) := by decide +kernel
theorem dX8_set__1 : decode cX8_set_ 1 = .ok (.aload_n 0, 1) := by decide +kernel
theorem dX8_set__2 : decode cX8_set_ 2 = .ok (.getfield 7, 3) := by decide +kernel
theorem dX8_set__5 : decode cX8_set_ 5 = .ok (.imul, 1) := by decide +kernel
theorem dX8_set__6 : decode cX8_set_ 6 = .ok (.iload_n 2, 1) := by decide +kernel
theorem dX8_set__7 : decode cX8_set_ 7 = .ok (.iadd, 1) := by decide +kernel
theorem dX8_set__8 : decode cX8_set_ 8 = .ok (.istore 4, 2) := by decide +kernel
theorem dX8_set__10 : decode cX8_set_ 10 = .ok (.iload 4, 2) := by decide +kernel
theorem dX8_set__12 : decode cX8_set_ 12 = .ok (.ifCond .lt 21, 3) := by decide +kernel
theorem dX8_set__15 : decode cX8_set_ 15 = .ok (.iload 4, 2) := by decide +kernel
theorem dX8_set__17 : decode cX8_set_ 17 = .ok (.aload_n 0, 1) := by decide +kernel
theorem dX8_set__18 : decode cX8_set_ 18 = .ok (.getfield 19, 3) := by decide +kernel
theorem dX8_set__21 : decode cX8_set_ 21 = .ok (.arraylength, 1) := by decide +kernel
theorem dX8_set__22 : decode cX8_set_ 22 = .ok (.if_icmp .ge 11, 3) := by decide +kernel
theorem dX8_set__25 : decode cX8_set_ 25 = .ok (.aload_n 0, 1) := by decide +kernel
theorem dX8_set__26 : decode cX8_set_ 26 = .ok (.getfield 19, 3) := by decide +kernel
theorem dX8_set__29 : decode cX8_set_ 29 = .ok (.iload 4, 2) := by decide +kernel
theorem dX8_set__31 : decode cX8_set_ 31 = .ok (.iload_n 3, 1) := by decide +kernel
theorem dX8_set__32 : decode cX8_set_ 32 = .ok (.iastore, 1) := by decide +kernel
theorem dX8_set__33 : decode cX8_set_ 33 = .ok (.return_, 1) := by decide +kernel
theorem dX8_fill_0 : decode cX8_fill 0 = .ok (.iconst 0, 1) := by decide +kernel
theorem dX8_fill_1 : decode cX8_fill 1 = .ok (.istore_n 2, 1) := by decide +kernel
theorem dX8_fill_2 : decode cX8_fill 2 = .ok (.iload_n 2, 1) := by decide +kernel
theorem dX8_fill_3 : decode cX8_fill 3 = .ok (.aload_n 0, 1) := by decide +kernel
theorem dX8_fill_4 : decode cX8_fill 4 = .ok (.getfield 19, 3) := by decide +kernel
theorem dX8_fill_7 : decode cX8_fill 7 = .ok (.arraylength, 1) := by decide +kernel
theorem dX8_fill_8 : decode cX8_fill 8 = .ok (.if_icmp .ge 16, 3) := by decide +kernel
theorem dX8_fill_11 : decode cX8_fill 11 = .ok (.aload_n 0, 1) := by decide +kernel
theorem dX8_fill_12 : decode cX8_fill 12 = .ok (.getfield 19, 3) := by decide +kernel
theorem dX8_fill_15 : decode cX8_fill 15 = .ok (.iload_n 2, 1) := by decide +kernel
theorem dX8_fill_16 : decode cX8_fill 16 = .ok (.iload_n 1, 1) := by decide +kernel
theorem dX8_fill_17 : decode cX8_fill 17 = .ok (.iastore, 1) := by decide +kernel
theorem dX8_fill_18 : decode cX8_fill 18 = .ok (.iinc 2 1, 3) := by decide +kernel
theorem dX8_fill_21 : decode cX8_fill 21 = .ok (.goto (-19), 3) := by decide +kernel
theorem dX8_fill_24 : decode cX8_fill 24 = .ok (.return_, 1) := by decide +kernel
set_option maxRecDepth 20000 in
theorem ggX8_become_X8_at : GoodIn wsX8_become wsX8_at := goodIn_r _ [6, 1, 7, 8] rfl (by decide +kernel)
set_option maxRecDepth 20000 in
theorem gX8_become_X8_at : GoodIn wsX8_become (wsV RX8 23 RX8 yX8_at wsX8_at) := goodIn_app (goodIn_of _ (by decide +kernel)) ggX8_become_X8_at
theorem dX8_become_0 : decode cX8_become 0 = .ok (.iconst 0, 1) := by decide +kernel
theorem dX8_become_1 : decode cX8_become 1 = .ok (.istore_n 2, 1) := by decide +kernel
theorem dX8_become_2 : decode cX8_become 2 = .ok (.iload_n 2, 1) := by decide +kernel
theorem dX8_become_3 : decode cX8_become 3 = .ok (.aload_n 0, 1) := by decide +kernel
theorem dX8_become_4 : decode cX8_become 4 = .ok (.getfield 19, 3) := by decide +kernel
theorem dX8_become_7 : decode cX8_become 7 = .ok (.arraylength, 1) := by decide +kernel
theorem dX8_become_8 : decode cX8_become 8 = .ok (.if_icmp .ge 20, 3) := by decide +kernel
theorem dX8_become_11 : decode cX8_become 11 = .ok (.aload_n 0, 1) := by decide +kernel
theorem dX8_become_12 : decode cX8_become 12 = .ok (.getfield 19, 3) := by decide +kernel
theorem dX8_become_15 : decode cX8_become 15 = .ok (.iload_n 2, 1) := by decide +kernel
theorem dX8_become_16 : decode cX8_become 16 = .ok (.aload_n 1, 1) := by decide +kernel
theorem dX8_become_17 : decode cX8_become 17 = .ok (.iload_n 2, 1) := by decide +kernel
theorem dX8_become_18 : decode cX8_become 18 = .ok (.invokevirtual 23, 3) := by decide +kernel
theorem dX8_become_21 : decode cX8_become 21 = .ok (.iastore, 1) := by decide +kernel
theorem dX8_become_22 : decode cX8_become 22 = .ok (.iinc 2 1, 3) := by decide +kernel
theorem dX8_become_25 : decode cX8_become 25 = .ok (.goto (-23), 3) := by decide +kernel
theorem dX8_become_28 : decode cX8_become 28 = .ok (.return_, 1) := by decide +kernel
