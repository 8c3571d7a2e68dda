set_option maxRecDepth 20000 in
theorem ggX1_init_X8_init : GoodIn wsX1_init wsX8_init := goodIn_r _ [12, 13, 2, 3, 14, 15, 16, 17, 18, 19, 20, 21, 22] rfl (by decide +kernel)
set_option maxRecDepth 20000 in
theorem gX1_init_X8_init : GoodIn wsX1_init (wsX8_init) := ggX1_init_X8_init
theorem dX1_init_0 : decode cX1_init 0 = .ok (.aload_n 0, 1) := by decide +kernel
theorem dX1_init_1 : decode cX1_init 1 = .ok (.invokespecial 3, 3) := by decide +kernel
theorem dX1_init_4 : decode cX1_init 4 = .ok (.aload_n 0, 1) := by decide +kernel
theorem dX1_init_5 : decode cX1_init 5 = .ok (.new 9, 3) := by decide +kernel
theorem dX1_init_8 : decode cX1_init 8 = .ok (.dup, 1) := by decide +kernel
theorem dX1_init_9 : decode cX1_init 9 = .ok (.bipush 40, 2) := by decide +kernel
theorem dX1_init_11 : decode cX1_init 11 = .ok (.iconst 3, 1) := by decide +kernel
theorem dX1_init_12 : decode cX1_init 12 = .ok (.invokespecial 11, 3) := by decide +kernel
theorem dX1_init_15 : decode cX1_init 15 = .ok (.putfield 14, 3) := by decide +kernel
theorem dX1_init_18 : decode cX1_init 18 = .ok (.aload_n 0, 1) := by decide +kernel
theorem dX1_init_19 : decode cX1_init 19 = .ok (.new 9, 3) := by decide +kernel
theorem dX1_init_22 : decode cX1_init 22 = .ok (.dup, 1) := by decide +kernel
theorem dX1_init_23 : decode cX1_init 23 = .ok (.bipush 6, 2) := by decide +kernel
theorem dX1_init_25 : decode cX1_init 25 = .ok (.iconst 2, 1) := by decide +kernel
theorem dX1_init_26 : decode cX1_init 26 = .ok (.invokespecial 11, 3) := by decide +kernel
theorem dX1_init_29 : decode cX1_init 29 = .ok (.putfield 20, 3) := by decide +kernel
theorem dX1_init_32 : decode cX1_init 32 = .ok (.aload_n 0, 1) := by decide +kernel
theorem dX1_init_33 : decode cX1_init 33 = .ok (.new 9, 3) := by decide +kernel
theorem dX1_init_36 : decode cX1_init 36 = .ok (.dup, 1) := by decide +kernel
theorem dX1_init_37 : decode cX1_init 37 = .ok (.iconst 3, 1) := by decide +kernel
theorem dX1_init_38 : decode cX1_init 38 = .ok (.iconst 1, 1) := by decide +kernel
theorem dX1_init_39 : decode cX1_init 39 = .ok (.invokespecial 11, 3) := by decide +kernel
theorem dX1_init_42 : decode cX1_init 42 = .ok (.putfield 23, 3) := by decide +kernel
theorem dX1_init_45 : decode cX1_init 45 = .ok (.return_, 1) := by decide +kernel
theorem dX1_begin_0 : decode cX1_begin 0 = .ok (.aload_n 0, 1) := by decide +kernel
theorem dX1_begin_1 : decode cX1_begin 1 = .ok (.iconst 0, 1) := by decide +kernel
theorem dX1_begin_2 : decode cX1_begin 2 = .ok (.putfield 26, 3) := by decide +kernel
theorem dX1_begin_5 : decode cX1_begin 5 = .ok (.aload_n 0, 1) := by decide +kernel
theorem dX1_begin_6 : decode cX1_begin 6 = .ok (.iconst 0, 1) := by decide +kernel
theorem dX1_begin_7 : decode cX1_begin 7 = .ok (.putfield 30, 3) := by decide +kernel
theorem dX1_begin_10 : decode cX1_begin 10 = .ok (.return_, 1) := by decide +kernel
set_option maxRecDepth 20000 in
theorem ggX1_become_X8_become : GoodIn wsX1_become wsX8_become := goodIn_r _ [10, 11, 12, 13, 14, 9, 15, 21, 22] rfl (by decide +kernel)
set_option maxRecDepth 20000 in
theorem gX1_become_X8_become : GoodIn wsX1_become (wsV RX1 33 RX8 yX8_become wsX8_become) := goodIn_app (goodIn_of _ (by decide +kernel)) ggX1_become_X8_become
theorem dX1_become_0 : decode cX1_become 0 = .ok (.aload_n 0, 1) := by decide +kernel
theorem dX1_become_1 : decode cX1_become 1 = .ok (.getfield 14, 3) := by decide +kernel
theorem dX1_become_4 : decode cX1_become 4 = .ok (.aload_n 1, 1) := by decide +kernel
theorem dX1_become_5 : decode cX1_become 5 = .ok (.getfield 14, 3) := by decide +kernel
theorem dX1_become_8 : decode cX1_become 8 = .ok (.invokevirtual 33, 3) := by decide +kernel
theorem dX1_become_11 : decode cX1_become 11 = .ok (.aload_n 0, 1) := by decide +kernel
theorem dX1_become_12 : decode cX1_become 12 = .ok (.aload_n 1, 1) := by decide +kernel
theorem dX1_become_13 : decode cX1_become 13 = .ok (.getfield 26, 3) := by decide +kernel
theorem dX1_become_16 : decode cX1_become 16 = .ok (.putfield 26, 3) := by decide +kernel
theorem dX1_become_19 : decode cX1_become 19 = .ok (.aload_n 0, 1) := by decide +kernel
theorem dX1_become_20 : decode cX1_become 20 = .ok (.getfield 20, 3) := by decide +kernel
theorem dX1_become_23 : decode cX1_become 23 = .ok (.aload_n 1, 1) := by decide +kernel
theorem dX1_become_24 : decode cX1_become 24 = .ok (.getfield 20, 3) := by decide +kernel
theorem dX1_become_27 : decode cX1_become 27 = .ok (.invokevirtual 33, 3) := by decide +kernel
theorem dX1_become_30 : decode cX1_become 30 = .ok (.aload_n 0, 1) := by decide +kernel
theorem dX1_become_31 : decode cX1_become 31 = .ok (.aload_n 1, 1) := by decide +kernel
theorem dX1_become_32 : decode cX1_become 32 = .ok (.getfield 30, 3) := by decide +kernel
theorem dX1_become_35 : decode cX1_become 35 = .ok (.putfield 30, 3) := by decide +kernel
theorem dX1_become_38 : decode cX1_become 38 = .ok (.aload_n 0, 1) := by decide +kernel
theorem dX1_become_39 : decode cX1_become 39 = .ok (.getfield 23, 3) := by decide +kernel
theorem dX1_become_42 : decode cX1_become 42 = .ok (.aload_n 1, 1) := by decide +kernel
theorem dX1_become_43 : decode cX1_become 43 = .ok (.getfield 23, 3) := by decide +kernel
theorem dX1_become_46 : decode cX1_become 46 = .ok (.invokevirtual 33, 3) := by decide +kernel
theorem dX1_become_49 : decode cX1_become 49 = .ok (.return_, 1) := by decide +kernel
set_option maxRecDepth 20000 in
theorem ggX1_refuse_X8_at : GoodIn wsX1_refuse wsX8_at := goodIn_r _ [6, 7, 17, 18] rfl (by decide +kernel)
set_option maxRecDepth 20000 in
theorem gX1_refuse_X8_at : GoodIn wsX1_refuse (wsV RX1 37 RX8 yX8_at wsX8_at) := goodIn_app (goodIn_of _ (by decide +kernel)) ggX1_refuse_X8_at
set_option maxRecDepth 20000 in
theorem ggX1_refuse_X8_set : GoodIn wsX1_refuse wsX8_set := goodIn_r _ [11, 7, 17, 18] rfl (by decide +kernel)
set_option maxRecDepth 20000 in
theorem gX1_refuse_X8_set : GoodIn wsX1_refuse (wsV RX1 41 RX8 yX8_set wsX8_set) := goodIn_app (goodIn_of _ (by decide +kernel)) ggX1_refuse_X8_set
theorem dX1_refuse_0 : decode cX1_refuse 0 = .ok (.aload_n 0, 1) := by decide +kernel
theorem dX1_refuse_1 : decode cX1_refuse 1 = .ok (.getfield 23, 3) := by decide +kernel
theorem dX1_refuse_4 : decode cX1_refuse 4 = .ok (.iload_n 1, 1) := by decide +kernel
theorem dX1_refuse_5 : decode cX1_refuse 5 = .ok (.aload_n 0, 1) := by decide +kernel
theorem dX1_refuse_6 : decode cX1_refuse 6 = .ok (.getfield 23, 3) := by decide +kernel
theorem dX1_refuse_9 : decode cX1_refuse 9 = .ok (.iload_n 1, 1) := by decide +kernel
theorem dX1_refuse_10 : decode cX1_refuse 10 = .ok (.invokevirtual 37, 3) := by decide +kernel
theorem dX1_refuse_13 : decode cX1_refuse 13 = .ok (.iconst 1, 1) := by decide +kernel
theorem dX1_refuse_14 : decode cX1_refuse 14 = .ok (.iadd, 1) := by decide +kernel
theorem dX1_refuse_15 : decode cX1_refuse 15 = .ok (.invokevirtual 41, 3) := by decide +kernel
theorem dX1_refuse_18 : decode cX1_refuse 18 = .ok (.return_, 1) := by decide +kernel
set_option maxRecDepth 20000 in
theorem ggX1_keepAct_X1_forgetFirstAct : GoodIn wsX1_keepAct wsX1_forgetFirstAct := goodIn_r _ [7, 2, 1, 8, 9, 10, 11, 12, 13, 14, 15, 16, 17, 23, 24, 25, 26, 27, 28, 29] rfl (by decide +kernel)
set_option maxRecDepth 20000 in
theorem gX1_keepAct_X1_forgetFirstAct : GoodIn wsX1_keepAct (wsV RX1 44 RX1 yX1_forgetFirstAct wsX1_forgetFirstAct) := goodIn_app (goodIn_of _ (by decide +kernel)) ggX1_keepAct_X1_forgetFirstAct
set_option maxRecDepth 20000 in
theorem ggX1_keepAct_X8_set_ : GoodIn wsX1_keepAct wsX8_set_ := goodIn_r _ [21, 22, 13, 28, 29] rfl (by decide +kernel)
set_option maxRecDepth 20000 in
theorem gX1_keepAct_X8_set_ : GoodIn wsX1_keepAct (wsV RX1 47 RX8 yX8_set_ wsX8_set_) := goodIn_app (goodIn_of _ (by decide +kernel)) ggX1_keepAct_X8_set_
theorem dX1_keepAct_0 : decode cX1_keepAct 0 = .ok (.aload_n 0, 1) := by decide +kernel
theorem dX1_keepAct_1 : decode cX1_keepAct 1 = .ok (.getfield 26, 3) := by decide +kernel
theorem dX1_keepAct_4 : decode cX1_keepAct 4 = .ok (.bipush 40, 2) := by decide +kernel
theorem dX1_keepAct_6 : decode cX1_keepAct 6 = .ok (.if_icmp .ne 7, 3) := by decide +kernel
theorem dX1_keepAct_9 : decode cX1_keepAct 9 = .ok (.aload_n 0, 1) := by decide +kernel
theorem dX1_keepAct_10 : decode cX1_keepAct 10 = .ok (.invokevirtual 44, 3) := by decide +kernel
theorem dX1_keepAct_13 : decode cX1_keepAct 13 = .ok (.aload_n 0, 1) := by decide +kernel
theorem dX1_keepAct_14 : decode cX1_keepAct 14 = .ok (.getfield 14, 3) := by decide +kernel
theorem dX1_keepAct_17 : decode cX1_keepAct 17 = .ok (.aload_n 0, 1) := by decide +kernel
theorem dX1_keepAct_18 : decode cX1_keepAct 18 = .ok (.getfield 26, 3) := by decide +kernel
theorem dX1_keepAct_21 : decode cX1_keepAct 21 = .ok (.iconst 0, 1) := by decide +kernel
theorem dX1_keepAct_22 : decode cX1_keepAct 22 = .ok (.iload_n 1, 1) := by decide +kernel
theorem dX1_keepAct_23 : decode cX1_keepAct 23 = .ok (.invokevirtual 47, 3) := by decide +kernel
theorem dX1_keepAct_26 : decode cX1_keepAct 26 = .ok (.aload_n 0, 1) := by decide +kernel
theorem dX1_keepAct_27 : decode cX1_keepAct 27 = .ok (.getfield 14, 3) := by decide +kernel
theorem dX1_keepAct_30 : decode cX1_keepAct 30 = .ok (.aload_n 0, 1) := by decide +kernel
theorem dX1_keepAct_31 : decode cX1_keepAct 31 = .ok (.getfield 26, 3) := by decide +kernel
theorem dX1_keepAct_34 : decode cX1_keepAct 34 = .ok (.iconst 1, 1) := by decide +kernel
theorem dX1_keepAct_35 : decode cX1_keepAct 35 = .ok (.iload_n 2, 1) := by decide +kernel
theorem dX1_keepAct_36 : decode cX1_keepAct 36 = .ok (.invokevirtual 47, 3) := by decide +kernel
theorem dX1_keepAct_39 : decode cX1_keepAct 39 = .ok (.aload_n 0, 1) := by decide +kernel
theorem dX1_keepAct_40 : decode cX1_keepAct 40 = .ok (.getfield 14, 3) := by decide +kernel
theorem dX1_keepAct_43 : decode cX1_keepAct 43 = .ok (.aload_n 0, 1) := by decide +kernel
theorem dX1_keepAct_44 : decode cX1_keepAct 44 = .ok (.getfield 26, 3) := by decide +kernel
theorem dX1_keepAct_47 : decode cX1_keepAct 47 = .ok (.iconst 2, 1) := by decide +kernel
theorem dX1_keepAct_48 : decode cX1_keepAct 48 = .ok (.iload_n 3, 1) := by decide +kernel
theorem dX1_keepAct_49 : decode cX1_keepAct 49 = .ok (.invokevirtual 47, 3) := by decide +kernel
theorem dX1_keepAct_52 : decode cX1_keepAct 52 = .ok (.aload_n 0, 1) := by decide +kernel
theorem dX1_keepAct_53 : decode cX1_keepAct 53 = .ok (.dup, 1) := by decide +kernel
theorem dX1_keepAct_54 : decode cX1_keepAct 54 = .ok (.getfield 26, 3) := by decide +kernel
theorem dX1_keepAct_57 : decode cX1_keepAct 57 = .ok (.iconst 1, 1) := by decide +kernel
theorem dX1_keepAct_58 : decode cX1_keepAct 58 = .ok (.iadd, 1) := by decide +kernel
theorem dX1_keepAct_59 : decode cX1_keepAct 59 = .ok (.putfield 26, 3) := by decide +kernel
theorem dX1_keepAct_62 : decode cX1_keepAct 62 = .ok (.return_, 1) := by decide +kernel
set_option maxRecDepth 20000 in
theorem ggX1_forgetFirstAct_X8_at : GoodIn wsX1_forgetFirstAct wsX8_at := goodIn_r _ [7, 8, 18, 19] rfl (by decide +kernel)
set_option maxRecDepth 20000 in
theorem gX1_forgetFirstAct_X8_at : GoodIn wsX1_forgetFirstAct (wsV RX1 37 RX8 yX8_at wsX8_at) := goodIn_app (goodIn_of _ (by decide +kernel)) ggX1_forgetFirstAct_X8_at
set_option maxRecDepth 20000 in
theorem ggX1_forgetFirstAct_X8_set : GoodIn wsX1_forgetFirstAct wsX8_set := goodIn_r _ [12, 8, 18, 19] rfl (by decide +kernel)
set_option maxRecDepth 20000 in
theorem gX1_forgetFirstAct_X8_set : GoodIn wsX1_forgetFirstAct (wsV RX1 41 RX8 yX8_set wsX8_set) := goodIn_app (goodIn_of _ (by decide +kernel)) ggX1_forgetFirstAct_X8_set
theorem dX1_forgetFirstAct_0 : decode cX1_forgetFirstAct 0 = .ok (.iconst 3, 1) := by decide +kernel
theorem dX1_forgetFirstAct_1 : decode cX1_forgetFirstAct 1 = .ok (.istore_n 1, 1) := by decide +kernel
theorem dX1_forgetFirstAct_2 : decode cX1_forgetFirstAct 2 = .ok (.iload_n 1, 1) := by decide +kernel
theorem dX1_forgetFirstAct_3 : decode cX1_forgetFirstAct 3 = .ok (.bipush 120, 2) := by decide +kernel
theorem dX1_forgetFirstAct_5 : decode cX1_forgetFirstAct 5 = .ok (.if_icmp .ge 27, 3) := by decide +kernel
theorem dX1_forgetFirstAct_8 : decode cX1_forgetFirstAct 8 = .ok (.aload_n 0, 1) := by decide +kernel
theorem dX1_forgetFirstAct_9 : decode cX1_forgetFirstAct 9 = .ok (.getfield 14, 3) := by decide +kernel
theorem dX1_forgetFirstAct_12 : decode cX1_forgetFirstAct 12 = .ok (.iload_n 1, 1) := by decide +kernel
theorem dX1_forgetFirstAct_13 : decode cX1_forgetFirstAct 13 = .ok (.iconst 3, 1) := by decide +kernel
theorem dX1_forgetFirstAct_14 : decode cX1_forgetFirstAct 14 = .ok (.isub, 1) := by decide +kernel
theorem dX1_forgetFirstAct_15 : decode cX1_forgetFirstAct 15 = .ok (.aload_n 0, 1) := by decide +kernel
theorem dX1_forgetFirstAct_16 : decode cX1_forgetFirstAct 16 = .ok (.getfield 14, 3) := by decide +kernel
theorem dX1_forgetFirstAct_19 : decode cX1_forgetFirstAct 19 = .ok (.iload_n 1, 1) := by decide +kernel
theorem dX1_forgetFirstAct_20 : decode cX1_forgetFirstAct 20 = .ok (.invokevirtual 37, 3) := by decide +kernel
theorem dX1_forgetFirstAct_23 : decode cX1_forgetFirstAct 23 = .ok (.invokevirtual 41, 3) := by decide +kernel
theorem dX1_forgetFirstAct_26 : decode cX1_forgetFirstAct 26 = .ok (.iinc 1 1, 3) := by decide +kernel
theorem dX1_forgetFirstAct_29 : decode cX1_forgetFirstAct 29 = .ok (.goto (-27), 3) := by decide +kernel
theorem dX1_forgetFirstAct_32 : decode cX1_forgetFirstAct 32 = .ok (.aload_n 0, 1) := by decide +kernel
theorem dX1_forgetFirstAct_33 : decode cX1_forgetFirstAct 33 = .ok (.dup, 1) := by decide +kernel
theorem dX1_forgetFirstAct_34 : decode cX1_forgetFirstAct 34 = .ok (.getfield 26, 3) := by decide +kernel
theorem dX1_forgetFirstAct_37 : decode cX1_forgetFirstAct 37 = .ok (.iconst 1, 1) := by decide +kernel
theorem dX1_forgetFirstAct_38 : decode cX1_forgetFirstAct 38 = .ok (.isub, 1) := by decide +kernel
theorem dX1_forgetFirstAct_39 : decode cX1_forgetFirstAct 39 = .ok (.putfield 26, 3) := by decide +kernel
theorem dX1_forgetFirstAct_42 : decode cX1_forgetFirstAct 42 = .ok (.return_, 1) := by decide +kernel
set_option maxRecDepth 20000 in
theorem ggX1_takeBackAct_X8_at_ : GoodIn wsX1_takeBackAct wsX8_at_ := goodIn_r _ [7, 8, 9, 26, 27] rfl (by decide +kernel)
set_option maxRecDepth 20000 in
theorem gX1_takeBackAct_X8_at_ : GoodIn wsX1_takeBackAct (wsV RX1 50 RX8 yX8_at_ wsX8_at_) := goodIn_app (goodIn_of _ (by decide +kernel)) ggX1_takeBackAct_X8_at_
set_option maxRecDepth 20000 in
theorem ggX1_takeBackAct_X7_takeBack : GoodIn wsX1_takeBackAct wsX7_takeBack := goodIn_r _ [14, 15, 16, 17, 18, 19, 6, 20, 9, 28, 29, 30, 26, 27] rfl (by decide +kernel)
set_option maxRecDepth 20000 in
theorem gX1_takeBackAct_X7_takeBack : GoodIn wsX1_takeBackAct (wsV RX1 53 RX7 yX7_takeBack wsX7_takeBack) := goodIn_app (goodIn_of _ (by decide +kernel)) ggX1_takeBackAct_X7_takeBack
theorem dX1_takeBackAct_0 : decode cX1_takeBackAct 0 = .ok (.aload_n 0, 1) := by decide +kernel
theorem dX1_takeBackAct_1 : decode cX1_takeBackAct 1 = .ok (.dup, 1) := by decide +kernel
theorem dX1_takeBackAct_2 : decode cX1_takeBackAct 2 = .ok (.getfield 26, 3) := by decide +kernel
theorem dX1_takeBackAct_5 : decode cX1_takeBackAct 5 = .ok (.iconst 1, 1) := by decide +kernel
theorem dX1_takeBackAct_6 : decode cX1_takeBackAct 6 = .ok (.isub, 1) := by decide +kernel
theorem dX1_takeBackAct_7 : decode cX1_takeBackAct 7 = .ok (.putfield 26, 3) := by decide +kernel
theorem dX1_takeBackAct_10 : decode cX1_takeBackAct 10 = .ok (.aload_n 1, 1) := by decide +kernel
theorem dX1_takeBackAct_11 : decode cX1_takeBackAct 11 = .ok (.aload_n 0, 1) := by decide +kernel
theorem dX1_takeBackAct_12 : decode cX1_takeBackAct 12 = .ok (.getfield 14, 3) := by decide +kernel
theorem dX1_takeBackAct_15 : decode cX1_takeBackAct 15 = .ok (.aload_n 0, 1) := by decide +kernel
theorem dX1_takeBackAct_16 : decode cX1_takeBackAct 16 = .ok (.getfield 26, 3) := by decide +kernel
theorem dX1_takeBackAct_19 : decode cX1_takeBackAct 19 = .ok (.iconst 0, 1) := by decide +kernel
theorem dX1_takeBackAct_20 : decode cX1_takeBackAct 20 = .ok (.invokevirtual 50, 3) := by decide +kernel
theorem dX1_takeBackAct_23 : decode cX1_takeBackAct 23 = .ok (.aload_n 0, 1) := by decide +kernel
theorem dX1_takeBackAct_24 : decode cX1_takeBackAct 24 = .ok (.getfield 14, 3) := by decide +kernel
theorem dX1_takeBackAct_27 : decode cX1_takeBackAct 27 = .ok (.aload_n 0, 1) := by decide +kernel
theorem dX1_takeBackAct_28 : decode cX1_takeBackAct 28 = .ok (.getfield 26, 3) := by decide +kernel
theorem dX1_takeBackAct_31 : decode cX1_takeBackAct 31 = .ok (.iconst 1, 1) := by decide +kernel
theorem dX1_takeBackAct_32 : decode cX1_takeBackAct 32 = .ok (.invokevirtual 50, 3) := by decide +kernel
theorem dX1_takeBackAct_35 : decode cX1_takeBackAct 35 = .ok (.aload_n 0, 1) := by decide +kernel
theorem dX1_takeBackAct_36 : decode cX1_takeBackAct 36 = .ok (.getfield 14, 3) := by decide +kernel
theorem dX1_takeBackAct_39 : decode cX1_takeBackAct 39 = .ok (.aload_n 0, 1) := by decide +kernel
theorem dX1_takeBackAct_40 : decode cX1_takeBackAct 40 = .ok (.getfield 26, 3) := by decide +kernel
theorem dX1_takeBackAct_43 : decode cX1_takeBackAct 43 = .ok (.iconst 2, 1) := by decide +kernel
theorem dX1_takeBackAct_44 : decode cX1_takeBackAct 44 = .ok (.invokevirtual 50, 3) := by decide +kernel
theorem dX1_takeBackAct_47 : decode cX1_takeBackAct 47 = .ok (.invokevirtual 53, 3) := by decide +kernel
theorem dX1_takeBackAct_50 : decode cX1_takeBackAct 50 = .ok (.return_, 1) := by decide +kernel
set_option maxRecDepth 20000 in
theorem ggX1_keepSeen_X8_set_ : GoodIn wsX1_keepSeen wsX8_set_ := goodIn_r _ [7, 8, 9, 15, 16] rfl (by decide +kernel)
set_option maxRecDepth 20000 in
theorem gX1_keepSeen_X8_set_ : GoodIn wsX1_keepSeen (wsV RX1 47 RX8 yX8_set_ wsX8_set_) := goodIn_app (goodIn_of _ (by decide +kernel)) ggX1_keepSeen_X8_set_
theorem dX1_keepSeen_0 : decode cX1_keepSeen 0 = .ok (.aload_n 0, 1) := by decide +kernel
theorem dX1_keepSeen_1 : decode cX1_keepSeen 1 = .ok (.getfield 20, 3) := by decide +kernel
theorem dX1_keepSeen_4 : decode cX1_keepSeen 4 = .ok (.aload_n 0, 1) := by decide +kernel
theorem dX1_keepSeen_5 : decode cX1_keepSeen 5 = .ok (.getfield 30, 3) := by decide +kernel
theorem dX1_keepSeen_8 : decode cX1_keepSeen 8 = .ok (.iconst 0, 1) := by decide +kernel
theorem dX1_keepSeen_9 : decode cX1_keepSeen 9 = .ok (.iload_n 1, 1) := by decide +kernel
theorem dX1_keepSeen_10 : decode cX1_keepSeen 10 = .ok (.invokevirtual 47, 3) := by decide +kernel
theorem dX1_keepSeen_13 : decode cX1_keepSeen 13 = .ok (.aload_n 0, 1) := by decide +kernel
theorem dX1_keepSeen_14 : decode cX1_keepSeen 14 = .ok (.getfield 20, 3) := by decide +kernel
theorem dX1_keepSeen_17 : decode cX1_keepSeen 17 = .ok (.aload_n 0, 1) := by decide +kernel
theorem dX1_keepSeen_18 : decode cX1_keepSeen 18 = .ok (.getfield 30, 3) := by decide +kernel
theorem dX1_keepSeen_21 : decode cX1_keepSeen 21 = .ok (.iconst 1, 1) := by decide +kernel
theorem dX1_keepSeen_22 : decode cX1_keepSeen 22 = .ok (.iload_n 2, 1) := by decide +kernel
theorem dX1_keepSeen_23 : decode cX1_keepSeen 23 = .ok (.invokevirtual 47, 3) := by decide +kernel
theorem dX1_keepSeen_26 : decode cX1_keepSeen 26 = .ok (.aload_n 0, 1) := by decide +kernel
theorem dX1_keepSeen_27 : decode cX1_keepSeen 27 = .ok (.dup, 1) := by decide +kernel
theorem dX1_keepSeen_28 : decode cX1_keepSeen 28 = .ok (.getfield 30, 3) := by decide +kernel
theorem dX1_keepSeen_31 : decode cX1_keepSeen 31 = .ok (.iconst 1, 1) := by decide +kernel
theorem dX1_keepSeen_32 : decode cX1_keepSeen 32 = .ok (.iadd, 1) := by decide +kernel
theorem dX1_keepSeen_33 : decode cX1_keepSeen 33 = .ok (.putfield 30, 3) := by decide +kernel
theorem dX1_keepSeen_36 : decode cX1_keepSeen 36 = .ok (.return_, 1) := by decide +kernel
set_option maxRecDepth 20000 in
theorem ggX1_agreesWith_X8_at_ : GoodIn wsX1_agreesWith wsX8_at_ := goodIn_r _ [7, 8, 9, 39, 40] rfl (by decide +kernel)
set_option maxRecDepth 20000 in
theorem gX1_agreesWith_X8_at_ : GoodIn wsX1_agreesWith (wsV RX1 50 RX8 yX8_at_ wsX8_at_) := goodIn_app (goodIn_of _ (by decide +kernel)) ggX1_agreesWith_X8_at_
set_option maxRecDepth 20000 in
theorem ggX1_agreesWith_X7_weightIn : GoodIn wsX1_agreesWith wsX7_weightIn := goodIn_r _ [14, 15, 16, 17, 18, 13, 19, 20, 21, 22, 23, 24, 6, 25, 9, 26, 27, 28, 29, 30, 31, 32, 33, 4, 5, 7, 8, 41, 42, 43, 44, 45, 46, 47, 48, 49, 50, 51, 52, 53, 54, 55, 39, 40] rfl (by decide +kernel)
set_option maxRecDepth 20000 in
theorem gX1_agreesWith_X7_weightIn : GoodIn wsX1_agreesWith (wsV RX1 58 RX7 yX7_weightIn wsX7_weightIn) := goodIn_app (goodIn_of _ (by decide +kernel)) ggX1_agreesWith_X7_weightIn
theorem dX1_agreesWith_0 : decode cX1_agreesWith 0 = .ok (.iconst 0, 1) := by decide +kernel
theorem dX1_agreesWith_1 : decode cX1_agreesWith 1 = .ok (.istore_n 2, 1) := by decide +kernel
theorem dX1_agreesWith_2 : decode cX1_agreesWith 2 = .ok (.iload_n 2, 1) := by decide +kernel
theorem dX1_agreesWith_3 : decode cX1_agreesWith 3 = .ok (.aload_n 0, 1) := by decide +kernel
theorem dX1_agreesWith_4 : decode cX1_agreesWith 4 = .ok (.getfield 30, 3) := by decide +kernel
theorem dX1_agreesWith_7 : decode cX1_agreesWith 7 = .ok (.if_icmp .ge 36, 3) := by decide +kernel
theorem dX1_agreesWith_10 : decode cX1_agreesWith 10 = .ok (.aload_n 1, 1) := by decide +kernel
theorem dX1_agreesWith_11 : decode cX1_agreesWith 11 = .ok (.aload_n 0, 1) := by decide +kernel
theorem dX1_agreesWith_12 : decode cX1_agreesWith 12 = .ok (.getfield 20, 3) := by decide +kernel
theorem dX1_agreesWith_15 : decode cX1_agreesWith 15 = .ok (.iload_n 2, 1) := by decide +kernel
theorem dX1_agreesWith_16 : decode cX1_agreesWith 16 = .ok (.iconst 0, 1) := by decide +kernel
theorem dX1_agreesWith_17 : decode cX1_agreesWith 17 = .ok (.invokevirtual 50, 3) := by decide +kernel
theorem dX1_agreesWith_20 : decode cX1_agreesWith 20 = .ok (.invokevirtual 58, 3) := by decide +kernel
theorem dX1_agreesWith_23 : decode cX1_agreesWith 23 = .ok (.aload_n 0, 1) := by decide +kernel
theorem dX1_agreesWith_24 : decode cX1_agreesWith 24 = .ok (.getfield 20, 3) := by decide +kernel
theorem dX1_agreesWith_27 : decode cX1_agreesWith 27 = .ok (.iload_n 2, 1) := by decide +kernel
theorem dX1_agreesWith_28 : decode cX1_agreesWith 28 = .ok (.iconst 1, 1) := by decide +kernel
theorem dX1_agreesWith_29 : decode cX1_agreesWith 29 = .ok (.invokevirtual 50, 3) := by decide +kernel
theorem dX1_agreesWith_32 : decode cX1_agreesWith 32 = .ok (.if_icmp .eq 5, 3) := by decide +kernel
theorem dX1_agreesWith_35 : decode cX1_agreesWith 35 = .ok (.iconst 0, 1) := by decide +kernel
theorem dX1_agreesWith_36 : decode cX1_agreesWith 36 = .ok (.ireturn, 1) := by decide +kernel
theorem dX1_agreesWith_37 : decode cX1_agreesWith 37 = .ok (.iinc 2 1, 3) := by decide +kernel
theorem dX1_agreesWith_40 : decode cX1_agreesWith 40 = .ok (.goto (-38), 3) := by decide +kernel
theorem dX1_agreesWith_43 : decode cX1_agreesWith 43 = .ok (.iconst 1, 1) := by decide +kernel
theorem dX1_agreesWith_44 : decode cX1_agreesWith 44 = .ok (.ireturn, 1) := by decide +kernel
