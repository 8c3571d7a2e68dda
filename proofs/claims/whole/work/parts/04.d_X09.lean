theorem dX9_init_0 : decode cX9_init 0 = .ok (.aload_n 0, 1) := by decide +kernel
theorem dX9_init_1 : decode cX9_init 1 = .ok (.invokespecial 3, 3) := by decide +kernel
theorem dX9_init_4 : decode cX9_init 4 = .ok (.aload_n 0, 1) := by decide +kernel
theorem dX9_init_5 : decode cX9_init 5 = .ok (.sipush 700, 3) := by decide +kernel
theorem dX9_init_8 : decode cX9_init 8 = .ok (.newarray .byte, 2) := by decide +kernel
theorem dX9_init_10 : decode cX9_init 10 = .ok (.putfield 9, 3) := by decide +kernel
theorem dX9_init_13 : decode cX9_init 13 = .ok (.aload_n 0, 1) := by decide +kernel
theorem dX9_init_14 : decode cX9_init 14 = .ok (.getstatic 15, 3) := by decide +kernel
theorem dX9_init_17 : decode cX9_init 17 = .ok (.putfield 21, 3) := by decide +kernel
theorem dX9_init_20 : decode cX9_init 20 = .ok (.return_, 1) := by decide +kernel
theorem dX9_append_0 : decode cX9_append 0 = .ok (.bipush 24, 2) := by decide +kernel
theorem dX9_append_2 : decode cX9_append 2 = .ok (.istore_n 2, 1) := by decide +kernel
theorem dX9_append_3 : decode cX9_append 3 = .ok (.iload_n 2, 1) := by decide +kernel
theorem dX9_append_4 : decode cX9_append 4 = .ok (.ifCond .lt 51, 3) := by decide +kernel
theorem dX9_append_7 : decode cX9_append 7 = .ok (.aload_n 0, 1) := by decide +kernel
theorem dX9_append_8 : decode cX9_append 8 = .ok (.getfield 24, 3) := by decide +kernel
theorem dX9_append_11 : decode cX9_append 11 = .ok (.ifCond .lt 38, 3) := by decide +kernel
theorem dX9_append_14 : decode cX9_append 14 = .ok (.aload_n 0, 1) := by decide +kernel
theorem dX9_append_15 : decode cX9_append 15 = .ok (.getfield 24, 3) := by decide +kernel
theorem dX9_append_18 : decode cX9_append 18 = .ok (.aload_n 0, 1) := by decide +kernel
theorem dX9_append_19 : decode cX9_append 19 = .ok (.getfield 9, 3) := by decide +kernel
theorem dX9_append_22 : decode cX9_append 22 = .ok (.arraylength, 1) := by decide +kernel
theorem dX9_append_23 : decode cX9_append 23 = .ok (.if_icmp .ge 26, 3) := by decide +kernel
theorem dX9_append_26 : decode cX9_append 26 = .ok (.aload_n 0, 1) := by decide +kernel
theorem dX9_append_27 : decode cX9_append 27 = .ok (.getfield 9, 3) := by decide +kernel
theorem dX9_append_30 : decode cX9_append 30 = .ok (.aload_n 0, 1) := by decide +kernel
theorem dX9_append_31 : decode cX9_append 31 = .ok (.getfield 24, 3) := by decide +kernel
theorem dX9_append_34 : decode cX9_append 34 = .ok (.iload_n 1, 1) := by decide +kernel
theorem dX9_append_35 : decode cX9_append 35 = .ok (.iload_n 2, 1) := by decide +kernel
theorem dX9_append_36 : decode cX9_append 36 = .ok (.iushr, 1) := by decide +kernel
theorem dX9_append_37 : decode cX9_append 37 = .ok (.i2b, 1) := by decide +kernel
theorem dX9_append_38 : decode cX9_append 38 = .ok (.bastore, 1) := by decide +kernel
theorem dX9_append_39 : decode cX9_append 39 = .ok (.aload_n 0, 1) := by decide +kernel
theorem dX9_append_40 : decode cX9_append 40 = .ok (.dup, 1) := by decide +kernel
theorem dX9_append_41 : decode cX9_append 41 = .ok (.getfield 24, 3) := by decide +kernel
theorem dX9_append_44 : decode cX9_append 44 = .ok (.iconst 1, 1) := by decide +kernel
theorem dX9_append_45 : decode cX9_append 45 = .ok (.iadd, 1) := by decide +kernel
theorem dX9_append_46 : decode cX9_append 46 = .ok (.putfield 24, 3) := by decide +kernel
theorem dX9_append_49 : decode cX9_append 49 = .ok (.iinc 2 (-8), 3) := by decide +kernel
theorem dX9_append_52 : decode cX9_append 52 = .ok (.goto (-49), 3) := by decide +kernel
theorem dX9_append_55 : decode cX9_append 55 = .ok (.return_, 1) := by decide +kernel
set_option maxRecDepth 20000 in
theorem ggX9_begin_X9_advance : GoodIn wsX9_begin wsX9_advance := goodIn_r _ [7, 2, 1, 8, 9, 10, 11, 12, 13, 14, 15, 6, 16, 17, 18, 19, 20, 21, 22, 23, 24, 25, 26, 27, 28, 29, 30, 31, 32, 33, 34, 35, 36, 37, 38, 39, 40, 41, 42, 43, 44, 45, 46, 47, 48, 49, 50, 51, 52, 53, 54, 55, 56, 57, 58, 59, 60, 61, 62, 63, 64, 65, 66, 67, 68, 69, 70, 71, 72, 73, 74, 75, 76, 77, 78, 79, 80, 81, 82, 83, 84, 85, 86, 87, 88, 89, 90, 91, 92] rfl (by decide +kernel)
set_option maxRecDepth 20000 in
theorem gX9_begin_X9_advance : GoodIn wsX9_begin (wsV RX9 34 RX9 yX9_advance wsX9_advance) := goodIn_app (goodIn_of _ (by decide +kernel)) ggX9_begin_X9_advance
theorem dX9_begin_0 : decode cX9_begin 0 = .ok (.aload_n 0, 1) := by decide +kernel
theorem dX9_begin_1 : decode cX9_begin 1 = .ok (.iload_n 1, 1) := by decide +kernel
theorem dX9_begin_2 : decode cX9_begin 2 = .ok (.putfield 28, 3) := by decide +kernel
theorem dX9_begin_5 : decode cX9_begin 5 = .ok (.aload_n 0, 1) := by decide +kernel
theorem dX9_begin_6 : decode cX9_begin 6 = .ok (.iconst 0, 1) := by decide +kernel
theorem dX9_begin_7 : decode cX9_begin 7 = .ok (.putfield 31, 3) := by decide +kernel
theorem dX9_begin_10 : decode cX9_begin 10 = .ok (.aload_n 0, 1) := by decide +kernel
theorem dX9_begin_11 : decode cX9_begin 11 = .ok (.invokevirtual 34, 3) := by decide +kernel
theorem dX9_begin_14 : decode cX9_begin 14 = .ok (.return_, 1) := by decide +kernel
theorem dX9_byteAt_0 : decode cX9_byteAt 0 = .ok (.iload_n 1, 1) := by decide +kernel
theorem dX9_byteAt_1 : decode cX9_byteAt 1 = .ok (.ifCond .lt 33, 3) := by decide +kernel
theorem dX9_byteAt_4 : decode cX9_byteAt 4 = .ok (.iload_n 1, 1) := by decide +kernel
theorem dX9_byteAt_5 : decode cX9_byteAt 5 = .ok (.aload_n 0, 1) := by decide +kernel
theorem dX9_byteAt_6 : decode cX9_byteAt 6 = .ok (.getfield 28, 3) := by decide +kernel
theorem dX9_byteAt_9 : decode cX9_byteAt 9 = .ok (.if_icmp .ge 25, 3) := by decide +kernel
theorem dX9_byteAt_12 : decode cX9_byteAt 12 = .ok (.iload_n 1, 1) := by decide +kernel
theorem dX9_byteAt_13 : decode cX9_byteAt 13 = .ok (.aload_n 0, 1) := by decide +kernel
theorem dX9_byteAt_14 : decode cX9_byteAt 14 = .ok (.getfield 9, 3) := by decide +kernel
theorem dX9_byteAt_17 : decode cX9_byteAt 17 = .ok (.arraylength, 1) := by decide +kernel
theorem dX9_byteAt_18 : decode cX9_byteAt 18 = .ok (.if_icmp .ge 16, 3) := by decide +kernel
theorem dX9_byteAt_21 : decode cX9_byteAt 21 = .ok (.aload_n 0, 1) := by decide +kernel
theorem dX9_byteAt_22 : decode cX9_byteAt 22 = .ok (.getfield 9, 3) := by decide +kernel
theorem dX9_byteAt_25 : decode cX9_byteAt 25 = .ok (.iload_n 1, 1) := by decide +kernel
theorem dX9_byteAt_26 : decode cX9_byteAt 26 = .ok (.baload, 1) := by decide +kernel
theorem dX9_byteAt_27 : decode cX9_byteAt 27 = .ok (.sipush 255, 3) := by decide +kernel
theorem dX9_byteAt_30 : decode cX9_byteAt 30 = .ok (.iand, 1) := by decide +kernel
theorem dX9_byteAt_31 : decode cX9_byteAt 31 = .ok (.goto 4, 3) := by decide +kernel
theorem dX9_byteAt_34 : decode cX9_byteAt 34 = .ok (.iconst (-1), 1) := by decide +kernel
theorem dX9_byteAt_35 : decode cX9_byteAt 35 = .ok (.ireturn, 1) := by decide +kernel
set_option maxRecDepth 20000 in
theorem ggX9_advance_X9_byteAt : GoodIn wsX9_advance wsX9_byteAt := goodIn_r _ [12, 2, 13, 81, 82, 83, 84, 85, 86, 87, 88] rfl (by decide +kernel)
set_option maxRecDepth 20000 in
theorem gX9_advance_X9_byteAt : GoodIn wsX9_advance (wsV RX9 37 RX9 yX9_byteAt wsX9_byteAt) := goodIn_app (goodIn_of _ (by decide +kernel)) ggX9_advance_X9_byteAt
set_option maxRecDepth 20000 in
theorem ggX9_advance_X9_isLetter : GoodIn wsX9_advance wsX9_isLetter := goodIn_r _ [16] rfl (by decide +kernel)
set_option maxRecDepth 20000 in
theorem gX9_advance_X9_isLetter : GoodIn wsX9_advance (va_wsS RX9 47 yX9_isLetter wsX9_isLetter) := goodIn_app (goodIn_of _ (by decide +kernel)) ggX9_advance_X9_isLetter
set_option maxRecDepth 20000 in
theorem ggX9_advance_X9_isDigit : GoodIn wsX9_advance wsX9_isDigit := goodIn_r _ [19] rfl (by decide +kernel)
set_option maxRecDepth 20000 in
theorem gX9_advance_X9_isDigit : GoodIn wsX9_advance (va_wsS RX9 51 yX9_isDigit wsX9_isDigit) := goodIn_app (goodIn_of _ (by decide +kernel)) ggX9_advance_X9_isDigit
set_option maxRecDepth 20000 in
theorem ggX9_advance_X9_findWord : GoodIn wsX9_advance wsX9_findWord := goodIn_r _ [23, 1, 3, 24, 4, 25, 26, 27, 28, 29, 30, 31, 32, 33, 34, 35, 36, 37, 38, 39, 40, 41, 42, 43, 44, 45, 46, 47, 48, 49, 50, 51, 52, 53, 54, 55, 56, 57, 58, 59, 60, 61, 62, 63, 64, 65, 66, 67, 68, 69, 70, 71, 72, 73, 8, 9, 10, 11, 12, 2, 13, 81, 82, 83, 84, 85, 86, 87, 88] rfl (by decide +kernel)
set_option maxRecDepth 20000 in
theorem gX9_advance_X9_findWord : GoodIn wsX9_advance (wsV RX9 54 RX9 yX9_findWord wsX9_findWord) := goodIn_app (goodIn_of _ (by decide +kernel)) ggX9_advance_X9_findWord
set_option maxRecDepth 20000 in
theorem ggX9_advance_X9_findNumber : GoodIn wsX9_advance wsX9_findNumber := goodIn_r _ [77, 1, 3, 8, 9, 10, 11, 12, 2, 13, 81, 82, 83, 84, 85, 86, 87, 88] rfl (by decide +kernel)
set_option maxRecDepth 20000 in
theorem gX9_advance_X9_findNumber : GoodIn wsX9_advance (wsV RX9 58 RX9 yX9_findNumber wsX9_findNumber) := goodIn_app (goodIn_of _ (by decide +kernel)) ggX9_advance_X9_findNumber
set_option maxRecDepth 20000 in
theorem ggX9_advance_X9_isSign : GoodIn wsX9_advance wsX9_isSign := goodIn_r _ [80] rfl (by decide +kernel)
set_option maxRecDepth 20000 in
theorem gX9_advance_X9_isSign : GoodIn wsX9_advance (va_wsS RX9 65 yX9_isSign wsX9_isSign) := goodIn_app (goodIn_of _ (by decide +kernel)) ggX9_advance_X9_isSign
theorem dX9_advance_0 : decode cX9_advance 0 = .ok (.aload_n 0, 1) := by decide +kernel
theorem dX9_advance_1 : decode cX9_advance 1 = .ok (.getfield 31, 3) := by decide +kernel
theorem dX9_advance_4 : decode cX9_advance 4 = .ok (.aload_n 0, 1) := by decide +kernel
theorem dX9_advance_5 : decode cX9_advance 5 = .ok (.getfield 28, 3) := by decide +kernel
theorem dX9_advance_8 : decode cX9_advance 8 = .ok (.if_icmp .ge 42, 3) := by decide +kernel
theorem dX9_advance_11 : decode cX9_advance 11 = .ok (.aload_n 0, 1) := by decide +kernel
theorem dX9_advance_12 : decode cX9_advance 12 = .ok (.aload_n 0, 1) := by decide +kernel
theorem dX9_advance_13 : decode cX9_advance 13 = .ok (.getfield 31, 3) := by decide +kernel
theorem dX9_advance_16 : decode cX9_advance 16 = .ok (.invokevirtual 37, 3) := by decide +kernel
theorem dX9_advance_19 : decode cX9_advance 19 = .ok (.bipush 32, 2) := by decide +kernel
theorem dX9_advance_21 : decode cX9_advance 21 = .ok (.if_icmp .eq 16, 3) := by decide +kernel
theorem dX9_advance_24 : decode cX9_advance 24 = .ok (.aload_n 0, 1) := by decide +kernel
theorem dX9_advance_25 : decode cX9_advance 25 = .ok (.aload_n 0, 1) := by decide +kernel
theorem dX9_advance_26 : decode cX9_advance 26 = .ok (.getfield 31, 3) := by decide +kernel
theorem dX9_advance_29 : decode cX9_advance 29 = .ok (.invokevirtual 37, 3) := by decide +kernel
theorem dX9_advance_32 : decode cX9_advance 32 = .ok (.bipush 10, 2) := by decide +kernel
theorem dX9_advance_34 : decode cX9_advance 34 = .ok (.if_icmp .ne 16, 3) := by decide +kernel
theorem dX9_advance_37 : decode cX9_advance 37 = .ok (.aload_n 0, 1) := by decide +kernel
theorem dX9_advance_38 : decode cX9_advance 38 = .ok (.dup, 1) := by decide +kernel
theorem dX9_advance_39 : decode cX9_advance 39 = .ok (.getfield 31, 3) := by decide +kernel
theorem dX9_advance_42 : decode cX9_advance 42 = .ok (.iconst 1, 1) := by decide +kernel
theorem dX9_advance_43 : decode cX9_advance 43 = .ok (.iadd, 1) := by decide +kernel
theorem dX9_advance_44 : decode cX9_advance 44 = .ok (.putfield 31, 3) := by decide +kernel
theorem dX9_advance_47 : decode cX9_advance 47 = .ok (.goto (-47), 3) := by decide +kernel
theorem dX9_advance_50 : decode cX9_advance 50 = .ok (.aload_n 0, 1) := by decide +kernel
theorem dX9_advance_51 : decode cX9_advance 51 = .ok (.aload_n 0, 1) := by decide +kernel
theorem dX9_advance_52 : decode cX9_advance 52 = .ok (.getfield 31, 3) := by decide +kernel
theorem dX9_advance_55 : decode cX9_advance 55 = .ok (.putfield 41, 3) := by decide +kernel
theorem dX9_advance_58 : decode cX9_advance 58 = .ok (.aload_n 0, 1) := by decide +kernel
theorem dX9_advance_59 : decode cX9_advance 59 = .ok (.getstatic 15, 3) := by decide +kernel
theorem dX9_advance_62 : decode cX9_advance 62 = .ok (.putfield 21, 3) := by decide +kernel
theorem dX9_advance_65 : decode cX9_advance 65 = .ok (.aload_n 0, 1) := by decide +kernel
theorem dX9_advance_66 : decode cX9_advance 66 = .ok (.aload_n 0, 1) := by decide +kernel
theorem dX9_advance_67 : decode cX9_advance 67 = .ok (.getfield 41, 3) := by decide +kernel
theorem dX9_advance_70 : decode cX9_advance 70 = .ok (.invokevirtual 37, 3) := by decide +kernel
theorem dX9_advance_73 : decode cX9_advance 73 = .ok (.istore_n 1, 1) := by decide +kernel
theorem dX9_advance_74 : decode cX9_advance 74 = .ok (.iload_n 1, 1) := by decide +kernel
theorem dX9_advance_75 : decode cX9_advance 75 = .ok (.iconst (-1), 1) := by decide +kernel
theorem dX9_advance_76 : decode cX9_advance 76 = .ok (.if_icmp .ne 9, 3) := by decide +kernel
theorem dX9_advance_79 : decode cX9_advance 79 = .ok (.aload_n 0, 1) := by decide +kernel
theorem dX9_advance_80 : decode cX9_advance 80 = .ok (.iconst 0, 1) := by decide +kernel
theorem dX9_advance_81 : decode cX9_advance 81 = .ok (.putfield 44, 3) := by decide +kernel
theorem dX9_advance_84 : decode cX9_advance 84 = .ok (.return_, 1) := by decide +kernel
theorem dX9_advance_85 : decode cX9_advance 85 = .ok (.iload_n 1, 1) := by decide +kernel
theorem dX9_advance_86 : decode cX9_advance 86 = .ok (.invokestatic 47, 3) := by decide +kernel
theorem dX9_advance_89 : decode cX9_advance 89 = .ok (.istore_n 2, 1) := by decide +kernel
theorem dX9_advance_90 : decode cX9_advance 90 = .ok (.iload_n 1, 1) := by decide +kernel
theorem dX9_advance_91 : decode cX9_advance 91 = .ok (.invokestatic 51, 3) := by decide +kernel
theorem dX9_advance_94 : decode cX9_advance 94 = .ok (.istore_n 3, 1) := by decide +kernel
theorem dX9_advance_95 : decode cX9_advance 95 = .ok (.aload_n 0, 1) := by decide +kernel
theorem dX9_advance_96 : decode cX9_advance 96 = .ok (.dup, 1) := by decide +kernel
theorem dX9_advance_97 : decode cX9_advance 97 = .ok (.getfield 31, 3) := by decide +kernel
theorem dX9_advance_100 : decode cX9_advance 100 = .ok (.iconst 1, 1) := by decide +kernel
theorem dX9_advance_101 : decode cX9_advance 101 = .ok (.iadd, 1) := by decide +kernel
theorem dX9_advance_102 : decode cX9_advance 102 = .ok (.putfield 31, 3) := by decide +kernel
theorem dX9_advance_105 : decode cX9_advance 105 = .ok (.aload_n 0, 1) := by decide +kernel
theorem dX9_advance_106 : decode cX9_advance 106 = .ok (.getfield 31, 3) := by decide +kernel
theorem dX9_advance_109 : decode cX9_advance 109 = .ok (.aload_n 0, 1) := by decide +kernel
theorem dX9_advance_110 : decode cX9_advance 110 = .ok (.getfield 28, 3) := by decide +kernel
theorem dX9_advance_113 : decode cX9_advance 113 = .ok (.if_icmp .ge 52, 3) := by decide +kernel
theorem dX9_advance_116 : decode cX9_advance 116 = .ok (.iload_n 2, 1) := by decide +kernel
theorem dX9_advance_117 : decode cX9_advance 117 = .ok (.ifCond .eq 17, 3) := by decide +kernel
theorem dX9_advance_120 : decode cX9_advance 120 = .ok (.aload_n 0, 1) := by decide +kernel
theorem dX9_advance_121 : decode cX9_advance 121 = .ok (.aload_n 0, 1) := by decide +kernel
theorem dX9_advance_122 : decode cX9_advance 122 = .ok (.getfield 31, 3) := by decide +kernel
theorem dX9_advance_125 : decode cX9_advance 125 = .ok (.invokevirtual 37, 3) := by decide +kernel
theorem dX9_advance_128 : decode cX9_advance 128 = .ok (.invokestatic 47, 3) := by decide +kernel
theorem dX9_advance_131 : decode cX9_advance 131 = .ok (.ifCond .ne 21, 3) := by decide +kernel
theorem dX9_advance_134 : decode cX9_advance 134 = .ok (.iload_n 3, 1) := by decide +kernel
theorem dX9_advance_135 : decode cX9_advance 135 = .ok (.ifCond .eq 30, 3) := by decide +kernel
theorem dX9_advance_138 : decode cX9_advance 138 = .ok (.aload_n 0, 1) := by decide +kernel
theorem dX9_advance_139 : decode cX9_advance 139 = .ok (.aload_n 0, 1) := by decide +kernel
theorem dX9_advance_140 : decode cX9_advance 140 = .ok (.getfield 31, 3) := by decide +kernel
theorem dX9_advance_143 : decode cX9_advance 143 = .ok (.invokevirtual 37, 3) := by decide +kernel
theorem dX9_advance_146 : decode cX9_advance 146 = .ok (.invokestatic 51, 3) := by decide +kernel
theorem dX9_advance_149 : decode cX9_advance 149 = .ok (.ifCond .eq 16, 3) := by decide +kernel
theorem dX9_advance_152 : decode cX9_advance 152 = .ok (.aload_n 0, 1) := by decide +kernel
theorem dX9_advance_153 : decode cX9_advance 153 = .ok (.dup, 1) := by decide +kernel
theorem dX9_advance_154 : decode cX9_advance 154 = .ok (.getfield 31, 3) := by decide +kernel
theorem dX9_advance_157 : decode cX9_advance 157 = .ok (.iconst 1, 1) := by decide +kernel
theorem dX9_advance_158 : decode cX9_advance 158 = .ok (.iadd, 1) := by decide +kernel
theorem dX9_advance_159 : decode cX9_advance 159 = .ok (.putfield 31, 3) := by decide +kernel
theorem dX9_advance_162 : decode cX9_advance 162 = .ok (.goto (-57), 3) := by decide +kernel
theorem dX9_advance_165 : decode cX9_advance 165 = .ok (.iload_n 2, 1) := by decide +kernel
theorem dX9_advance_166 : decode cX9_advance 166 = .ok (.ifCond .eq 19, 3) := by decide +kernel
theorem dX9_advance_169 : decode cX9_advance 169 = .ok (.aload_n 0, 1) := by decide +kernel
theorem dX9_advance_170 : decode cX9_advance 170 = .ok (.iconst 1, 1) := by decide +kernel
theorem dX9_advance_171 : decode cX9_advance 171 = .ok (.putfield 44, 3) := by decide +kernel
theorem dX9_advance_174 : decode cX9_advance 174 = .ok (.aload_n 0, 1) := by decide +kernel
theorem dX9_advance_175 : decode cX9_advance 175 = .ok (.aload_n 0, 1) := by decide +kernel
theorem dX9_advance_176 : decode cX9_advance 176 = .ok (.invokevirtual 54, 3) := by decide +kernel
theorem dX9_advance_179 : decode cX9_advance 179 = .ok (.putfield 21, 3) := by decide +kernel
theorem dX9_advance_182 : decode cX9_advance 182 = .ok (.goto 39, 3) := by decide +kernel
theorem dX9_advance_185 : decode cX9_advance 185 = .ok (.iload_n 3, 1) := by decide +kernel
theorem dX9_advance_186 : decode cX9_advance 186 = .ok (.ifCond .eq 19, 3) := by decide +kernel
theorem dX9_advance_189 : decode cX9_advance 189 = .ok (.aload_n 0, 1) := by decide +kernel
theorem dX9_advance_190 : decode cX9_advance 190 = .ok (.iconst 2, 1) := by decide +kernel
theorem dX9_advance_191 : decode cX9_advance 191 = .ok (.putfield 44, 3) := by decide +kernel
theorem dX9_advance_194 : decode cX9_advance 194 = .ok (.aload_n 0, 1) := by decide +kernel
theorem dX9_advance_195 : decode cX9_advance 195 = .ok (.aload_n 0, 1) := by decide +kernel
theorem dX9_advance_196 : decode cX9_advance 196 = .ok (.invokevirtual 58, 3) := by decide +kernel
theorem dX9_advance_199 : decode cX9_advance 199 = .ok (.putfield 62, 3) := by decide +kernel
theorem dX9_advance_202 : decode cX9_advance 202 = .ok (.goto 19, 3) := by decide +kernel
theorem dX9_advance_205 : decode cX9_advance 205 = .ok (.aload_n 0, 1) := by decide +kernel
theorem dX9_advance_206 : decode cX9_advance 206 = .ok (.iload_n 1, 1) := by decide +kernel
theorem dX9_advance_207 : decode cX9_advance 207 = .ok (.invokestatic 65, 3) := by decide +kernel
theorem dX9_advance_210 : decode cX9_advance 210 = .ok (.ifCond .eq 7, 3) := by decide +kernel
theorem dX9_advance_213 : decode cX9_advance 213 = .ok (.iload_n 1, 1) := by decide +kernel
theorem dX9_advance_214 : decode cX9_advance 214 = .ok (.goto 4, 3) := by decide +kernel
theorem dX9_advance_217 : decode cX9_advance 217 = .ok (.iconst 3, 1) := by decide +kernel
theorem dX9_advance_218 : decode cX9_advance 218 = .ok (.putfield 44, 3) := by decide +kernel
theorem dX9_advance_221 : decode cX9_advance 221 = .ok (.return_, 1) := by decide +kernel
theorem dX9_isLetter_0 : decode cX9_isLetter 0 = .ok (.iload_n 0, 1) := by decide +kernel
theorem dX9_isLetter_1 : decode cX9_isLetter 1 = .ok (.bipush 97, 2) := by decide +kernel
theorem dX9_isLetter_3 : decode cX9_isLetter 3 = .ok (.if_icmp .lt 13, 3) := by decide +kernel
theorem dX9_isLetter_6 : decode cX9_isLetter 6 = .ok (.iload_n 0, 1) := by decide +kernel
theorem dX9_isLetter_7 : decode cX9_isLetter 7 = .ok (.bipush 122, 2) := by decide +kernel
theorem dX9_isLetter_9 : decode cX9_isLetter 9 = .ok (.if_icmp .gt 7, 3) := by decide +kernel
theorem dX9_isLetter_12 : decode cX9_isLetter 12 = .ok (.iconst 1, 1) := by decide +kernel
theorem dX9_isLetter_13 : decode cX9_isLetter 13 = .ok (.goto 4, 3) := by decide +kernel
theorem dX9_isLetter_16 : decode cX9_isLetter 16 = .ok (.iconst 0, 1) := by decide +kernel
theorem dX9_isLetter_17 : decode cX9_isLetter 17 = .ok (.ireturn, 1) := by decide +kernel
theorem dX9_isDigit_0 : decode cX9_isDigit 0 = .ok (.iload_n 0, 1) := by decide +kernel
theorem dX9_isDigit_1 : decode cX9_isDigit 1 = .ok (.bipush 48, 2) := by decide +kernel
theorem dX9_isDigit_3 : decode cX9_isDigit 3 = .ok (.if_icmp .lt 13, 3) := by decide +kernel
theorem dX9_isDigit_6 : decode cX9_isDigit 6 = .ok (.iload_n 0, 1) := by decide +kernel
theorem dX9_isDigit_7 : decode cX9_isDigit 7 = .ok (.bipush 57, 2) := by decide +kernel
theorem dX9_isDigit_9 : decode cX9_isDigit 9 = .ok (.if_icmp .gt 7, 3) := by decide +kernel
theorem dX9_isDigit_12 : decode cX9_isDigit 12 = .ok (.iconst 1, 1) := by decide +kernel
theorem dX9_isDigit_13 : decode cX9_isDigit 13 = .ok (.goto 4, 3) := by decide +kernel
theorem dX9_isDigit_16 : decode cX9_isDigit 16 = .ok (.iconst 0, 1) := by decide +kernel
theorem dX9_isDigit_17 : decode cX9_isDigit 17 = .ok (.ireturn, 1) := by decide +kernel
theorem dX9_isSign_0 : decode cX9_isSign 0 = .ok (.iload_n 0, 1) := by decide +kernel
theorem dX9_isSign_1 : decode cX9_isSign 1 = .ok (.bipush 59, 2) := by decide +kernel
theorem dX9_isSign_3 : decode cX9_isSign 3 = .ok (.if_icmp .eq 51, 3) := by decide +kernel
theorem dX9_isSign_6 : decode cX9_isSign 6 = .ok (.iload_n 0, 1) := by decide +kernel
theorem dX9_isSign_7 : decode cX9_isSign 7 = .ok (.bipush 40, 2) := by decide +kernel
theorem dX9_isSign_9 : decode cX9_isSign 9 = .ok (.if_icmp .eq 45, 3) := by decide +kernel
theorem dX9_isSign_12 : decode cX9_isSign 12 = .ok (.iload_n 0, 1) := by decide +kernel
theorem dX9_isSign_13 : decode cX9_isSign 13 = .ok (.bipush 41, 2) := by decide +kernel
theorem dX9_isSign_15 : decode cX9_isSign 15 = .ok (.if_icmp .eq 39, 3) := by decide +kernel
theorem dX9_isSign_18 : decode cX9_isSign 18 = .ok (.iload_n 0, 1) := by decide +kernel
theorem dX9_isSign_19 : decode cX9_isSign 19 = .ok (.bipush 43, 2) := by decide +kernel
theorem dX9_isSign_21 : decode cX9_isSign 21 = .ok (.if_icmp .eq 33, 3) := by decide +kernel
theorem dX9_isSign_24 : decode cX9_isSign 24 = .ok (.iload_n 0, 1) := by decide +kernel
theorem dX9_isSign_25 : decode cX9_isSign 25 = .ok (.bipush 45, 2) := by decide +kernel
theorem dX9_isSign_27 : decode cX9_isSign 27 = .ok (.if_icmp .eq 27, 3) := by decide +kernel
theorem dX9_isSign_30 : decode cX9_isSign 30 = .ok (.iload_n 0, 1) := by decide +kernel
theorem dX9_isSign_31 : decode cX9_isSign 31 = .ok (.bipush 42, 2) := by decide +kernel
theorem dX9_isSign_33 : decode cX9_isSign 33 = .ok (.if_icmp .eq 21, 3) := by decide +kernel
theorem dX9_isSign_36 : decode cX9_isSign 36 = .ok (.iload_n 0, 1) := by decide +kernel
theorem dX9_isSign_37 : decode cX9_isSign 37 = .ok (.bipush 47, 2) := by decide +kernel
theorem dX9_isSign_39 : decode cX9_isSign 39 = .ok (.if_icmp .eq 15, 3) := by decide +kernel
theorem dX9_isSign_42 : decode cX9_isSign 42 = .ok (.iload_n 0, 1) := by decide +kernel
theorem dX9_isSign_43 : decode cX9_isSign 43 = .ok (.bipush 60, 2) := by decide +kernel
theorem dX9_isSign_45 : decode cX9_isSign 45 = .ok (.if_icmp .eq 9, 3) := by decide +kernel
theorem dX9_isSign_48 : decode cX9_isSign 48 = .ok (.iload_n 0, 1) := by decide +kernel
theorem dX9_isSign_49 : decode cX9_isSign 49 = .ok (.bipush 61, 2) := by decide +kernel
theorem dX9_isSign_51 : decode cX9_isSign 51 = .ok (.if_icmp .ne 7, 3) := by decide +kernel
theorem dX9_isSign_54 : decode cX9_isSign 54 = .ok (.iconst 1, 1) := by decide +kernel
theorem dX9_isSign_55 : decode cX9_isSign 55 = .ok (.goto 4, 3) := by decide +kernel
theorem dX9_isSign_58 : decode cX9_isSign 58 = .ok (.iconst 0, 1) := by decide +kernel
theorem dX9_isSign_59 : decode cX9_isSign 59 = .ok (.ireturn, 1) := by decide +kernel
set_option maxRecDepth 20000 in
theorem ggX9_findWord_J0_length_8abf5 : GoodIn wsX9_findWord wsJ0_length_8abf5 := goodIn_r _ [9, 10, 11, 12, 13, 8, 14, 15, 16] rfl (by decide +kernel)
set_option maxRecDepth 20000 in
theorem gX9_findWord_J0_length_8abf5 : GoodIn wsX9_findWord (wsV RX9 76 RJ0 yJ0_length_8abf5 wsJ0_length_8abf5) := goodIn_app (goodIn_of _ (by decide +kernel)) ggX9_findWord_J0_length_8abf5
set_option maxRecDepth 20000 in
theorem ggX9_findWord_J0_charAt_5068e : GoodIn wsX9_findWord wsJ0_charAt_5068e := goodIn_r _ [20, 10, 21, 22, 23, 8, 24, 15, 16, 25, 26, 27, 28, 29, 30, 31, 32, 33, 34, 35, 36, 37, 38, 39, 40, 41, 42, 43, 44, 45, 46, 47, 48, 49, 50, 51, 52, 53] rfl (by decide +kernel)
set_option maxRecDepth 20000 in
theorem gX9_findWord_J0_charAt_5068e : GoodIn wsX9_findWord (wsV RX9 80 RJ0 yJ0_charAt_5068e wsJ0_charAt_5068e) := goodIn_app (goodIn_of _ (by decide +kernel)) ggX9_findWord_J0_charAt_5068e
set_option maxRecDepth 20000 in
theorem ggX9_findWord_X9_byteAt : GoodIn wsX9_findWord wsX9_byteAt := goodIn_r _ [58, 59, 60, 61, 62, 63, 64, 65, 66, 67, 68] rfl (by decide +kernel)
set_option maxRecDepth 20000 in
theorem gX9_findWord_X9_byteAt : GoodIn wsX9_findWord (wsV RX9 37 RX9 yX9_byteAt wsX9_byteAt) := goodIn_app (goodIn_of _ (by decide +kernel)) ggX9_findWord_X9_byteAt
theorem dX9_findWord_0 : decode cX9_findWord 0 = .ok (.aload_n 0, 1) := by decide +kernel
theorem dX9_findWord_1 : decode cX9_findWord 1 = .ok (.getfield 31, 3) := by decide +kernel
theorem dX9_findWord_4 : decode cX9_findWord 4 = .ok (.aload_n 0, 1) := by decide +kernel
theorem dX9_findWord_5 : decode cX9_findWord 5 = .ok (.getfield 41, 3) := by decide +kernel
theorem dX9_findWord_8 : decode cX9_findWord 8 = .ok (.isub, 1) := by decide +kernel
theorem dX9_findWord_9 : decode cX9_findWord 9 = .ok (.istore_n 1, 1) := by decide +kernel
theorem dX9_findWord_10 : decode cX9_findWord 10 = .ok (.iconst 0, 1) := by decide +kernel
theorem dX9_findWord_11 : decode cX9_findWord 11 = .ok (.istore_n 2, 1) := by decide +kernel
theorem dX9_findWord_12 : decode cX9_findWord 12 = .ok (.iload_n 2, 1) := by decide +kernel
theorem dX9_findWord_13 : decode cX9_findWord 13 = .ok (.getstatic 68, 3) := by decide +kernel
theorem dX9_findWord_16 : decode cX9_findWord 16 = .ok (.arraylength, 1) := by decide +kernel
theorem dX9_findWord_17 : decode cX9_findWord 17 = .ok (.if_icmp .ge 83, 3) := by decide +kernel
theorem dX9_findWord_20 : decode cX9_findWord 20 = .ok (.getstatic 68, 3) := by decide +kernel
theorem dX9_findWord_23 : decode cX9_findWord 23 = .ok (.iload_n 2, 1) := by decide +kernel
theorem dX9_findWord_24 : decode cX9_findWord 24 = .ok (.aaload, 1) := by decide +kernel
theorem dX9_findWord_25 : decode cX9_findWord 25 = .ok (.getfield 72, 3) := by decide +kernel
theorem dX9_findWord_28 : decode cX9_findWord 28 = .ok (.astore_n 3, 1) := by decide +kernel
theorem dX9_findWord_29 : decode cX9_findWord 29 = .ok (.iconst 0, 1) := by decide +kernel
theorem dX9_findWord_30 : decode cX9_findWord 30 = .ok (.istore 4, 2) := by decide +kernel
theorem dX9_findWord_32 : decode cX9_findWord 32 = .ok (.iload 4, 2) := by decide +kernel
theorem dX9_findWord_34 : decode cX9_findWord 34 = .ok (.iload_n 1, 1) := by decide +kernel
theorem dX9_findWord_35 : decode cX9_findWord 35 = .ok (.if_icmp .ge 38, 3) := by decide +kernel
theorem dX9_findWord_38 : decode cX9_findWord 38 = .ok (.iload 4, 2) := by decide +kernel
theorem dX9_findWord_40 : decode cX9_findWord 40 = .ok (.aload_n 3, 1) := by decide +kernel
theorem dX9_findWord_41 : decode cX9_findWord 41 = .ok (.invokevirtual 76, 3) := by decide +kernel
theorem dX9_findWord_44 : decode cX9_findWord 44 = .ok (.if_icmp .ge 29, 3) := by decide +kernel
theorem dX9_findWord_47 : decode cX9_findWord 47 = .ok (.aload_n 3, 1) := by decide +kernel
theorem dX9_findWord_48 : decode cX9_findWord 48 = .ok (.iload 4, 2) := by decide +kernel
theorem dX9_findWord_50 : decode cX9_findWord 50 = .ok (.invokevirtual 80, 3) := by decide +kernel
theorem dX9_findWord_53 : decode cX9_findWord 53 = .ok (.aload_n 0, 1) := by decide +kernel
theorem dX9_findWord_54 : decode cX9_findWord 54 = .ok (.aload_n 0, 1) := by decide +kernel
theorem dX9_findWord_55 : decode cX9_findWord 55 = .ok (.getfield 41, 3) := by decide +kernel
theorem dX9_findWord_58 : decode cX9_findWord 58 = .ok (.iload 4, 2) := by decide +kernel
theorem dX9_findWord_60 : decode cX9_findWord 60 = .ok (.iadd, 1) := by decide +kernel
theorem dX9_findWord_61 : decode cX9_findWord 61 = .ok (.invokevirtual 37, 3) := by decide +kernel
theorem dX9_findWord_64 : decode cX9_findWord 64 = .ok (.if_icmp .ne 9, 3) := by decide +kernel
theorem dX9_findWord_67 : decode cX9_findWord 67 = .ok (.iinc 4 1, 3) := by decide +kernel
theorem dX9_findWord_70 : decode cX9_findWord 70 = .ok (.goto (-38), 3) := by decide +kernel
theorem dX9_findWord_73 : decode cX9_findWord 73 = .ok (.iload 4, 2) := by decide +kernel
theorem dX9_findWord_75 : decode cX9_findWord 75 = .ok (.iload_n 1, 1) := by decide +kernel
theorem dX9_findWord_76 : decode cX9_findWord 76 = .ok (.if_icmp .ne 18, 3) := by decide +kernel
theorem dX9_findWord_79 : decode cX9_findWord 79 = .ok (.iload 4, 2) := by decide +kernel
theorem dX9_findWord_81 : decode cX9_findWord 81 = .ok (.aload_n 3, 1) := by decide +kernel
theorem dX9_findWord_82 : decode cX9_findWord 82 = .ok (.invokevirtual 76, 3) := by decide +kernel
theorem dX9_findWord_85 : decode cX9_findWord 85 = .ok (.if_icmp .ne 9, 3) := by decide +kernel
theorem dX9_findWord_88 : decode cX9_findWord 88 = .ok (.getstatic 68, 3) := by decide +kernel
theorem dX9_findWord_91 : decode cX9_findWord 91 = .ok (.iload_n 2, 1) := by decide +kernel
theorem dX9_findWord_92 : decode cX9_findWord 92 = .ok (.aaload, 1) := by decide +kernel
theorem dX9_findWord_93 : decode cX9_findWord 93 = .ok (.areturn, 1) := by decide +kernel
theorem dX9_findWord_94 : decode cX9_findWord 94 = .ok (.iinc 2 1, 3) := by decide +kernel
theorem dX9_findWord_97 : decode cX9_findWord 97 = .ok (.goto (-85), 3) := by decide +kernel
theorem dX9_findWord_100 : decode cX9_findWord 100 = .ok (.getstatic 15, 3) := by decide +kernel
theorem dX9_findWord_103 : decode cX9_findWord 103 = .ok (.areturn, 1) := by decide +kernel
set_option maxRecDepth 20000 in
theorem ggX9_findNumber_X9_byteAt : GoodIn wsX9_findNumber wsX9_byteAt := goodIn_r _ [7, 8, 9, 10, 11, 12, 13, 14, 15, 16, 17] rfl (by decide +kernel)
set_option maxRecDepth 20000 in
theorem gX9_findNumber_X9_byteAt : GoodIn wsX9_findNumber (wsV RX9 37 RX9 yX9_byteAt wsX9_byteAt) := goodIn_app (goodIn_of _ (by decide +kernel)) ggX9_findNumber_X9_byteAt
theorem dX9_findNumber_0 : decode cX9_findNumber 0 = .ok (.aload_n 0, 1) := by decide +kernel
theorem dX9_findNumber_1 : decode cX9_findNumber 1 = .ok (.getfield 31, 3) := by decide +kernel
theorem dX9_findNumber_4 : decode cX9_findNumber 4 = .ok (.aload_n 0, 1) := by decide +kernel
theorem dX9_findNumber_5 : decode cX9_findNumber 5 = .ok (.getfield 41, 3) := by decide +kernel
theorem dX9_findNumber_8 : decode cX9_findNumber 8 = .ok (.isub, 1) := by decide +kernel
theorem dX9_findNumber_9 : decode cX9_findNumber 9 = .ok (.iconst 4, 1) := by decide +kernel
theorem dX9_findNumber_10 : decode cX9_findNumber 10 = .ok (.if_icmp .le 7, 3) := by decide +kernel
theorem dX9_findNumber_13 : decode cX9_findNumber 13 = .ok (.sipush 10000, 3) := by decide +kernel
theorem dX9_findNumber_16 : decode cX9_findNumber 16 = .ok (.ireturn, 1) := by decide +kernel
theorem dX9_findNumber_17 : decode cX9_findNumber 17 = .ok (.iconst 0, 1) := by decide +kernel
theorem dX9_findNumber_18 : decode cX9_findNumber 18 = .ok (.istore_n 1, 1) := by decide +kernel
theorem dX9_findNumber_19 : decode cX9_findNumber 19 = .ok (.aload_n 0, 1) := by decide +kernel
theorem dX9_findNumber_20 : decode cX9_findNumber 20 = .ok (.getfield 41, 3) := by decide +kernel
theorem dX9_findNumber_23 : decode cX9_findNumber 23 = .ok (.istore_n 2, 1) := by decide +kernel
theorem dX9_findNumber_24 : decode cX9_findNumber 24 = .ok (.iload_n 2, 1) := by decide +kernel
theorem dX9_findNumber_25 : decode cX9_findNumber 25 = .ok (.aload_n 0, 1) := by decide +kernel
theorem dX9_findNumber_26 : decode cX9_findNumber 26 = .ok (.getfield 31, 3) := by decide +kernel
theorem dX9_findNumber_29 : decode cX9_findNumber 29 = .ok (.if_icmp .ge 23, 3) := by decide +kernel
theorem dX9_findNumber_32 : decode cX9_findNumber 32 = .ok (.iload_n 1, 1) := by decide +kernel
theorem dX9_findNumber_33 : decode cX9_findNumber 33 = .ok (.bipush 10, 2) := by decide +kernel
theorem dX9_findNumber_35 : decode cX9_findNumber 35 = .ok (.imul, 1) := by decide +kernel
theorem dX9_findNumber_36 : decode cX9_findNumber 36 = .ok (.aload_n 0, 1) := by decide +kernel
theorem dX9_findNumber_37 : decode cX9_findNumber 37 = .ok (.iload_n 2, 1) := by decide +kernel
theorem dX9_findNumber_38 : decode cX9_findNumber 38 = .ok (.invokevirtual 37, 3) := by decide +kernel
theorem dX9_findNumber_41 : decode cX9_findNumber 41 = .ok (.iadd, 1) := by decide +kernel
theorem dX9_findNumber_42 : decode cX9_findNumber 42 = .ok (.bipush 48, 2) := by decide +kernel
theorem dX9_findNumber_44 : decode cX9_findNumber 44 = .ok (.isub, 1) := by decide +kernel
theorem dX9_findNumber_45 : decode cX9_findNumber 45 = .ok (.istore_n 1, 1) := by decide +kernel
theorem dX9_findNumber_46 : decode cX9_findNumber 46 = .ok (.iinc 2 1, 3) := by decide +kernel
theorem dX9_findNumber_49 : decode cX9_findNumber 49 = .ok (.goto (-25), 3) := by decide +kernel
theorem dX9_findNumber_52 : decode cX9_findNumber 52 = .ok (.iload_n 1, 1) := by decide +kernel
theorem dX9_findNumber_53 : decode cX9_findNumber 53 = .ok (.ireturn, 1) := by decide +kernel
