set_option maxRecDepth 20000 in
theorem ggX6_init_X0_init : GoodIn wsX6_init wsX0_init := goodIn_r _ [35, 36, 2, 3, 37, 38, 39, 23, 40, 41, 42, 43, 44, 45, 46, 47, 48, 49, 50, 51, 52, 53, 102, 103, 104, 105, 106, 107, 108, 109, 110, 111, 112, 113, 114] (by decide +kernel) (by decide +kernel)
set_option maxRecDepth 20000 in
theorem gX6_init_X0_init_n11 : GoodIn wsX6_init (wsX0_init) := ggX6_init_X0_init
set_option maxRecDepth 20000 in
theorem ggX6_init_X4_init : GoodIn wsX6_init wsX4_init := goodIn_r _ [55, 56, 2, 3, 23, 57, 58, 59, 60, 61, 62, 126, 127, 128, 129, 130, 131] (by decide +kernel) (by decide +kernel)
set_option maxRecDepth 20000 in
theorem gX6_init_X4_init_n29 : GoodIn wsX6_init (wsX4_init) := ggX6_init_X4_init
set_option maxRecDepth 20000 in
theorem ggX6_init_X5_init : GoodIn wsX6_init wsX5_init := goodIn_r _ [64, 65, 2, 3, 66, 5, 6, 67, 68, 69, 70, 71, 72, 73, 34, 35, 36, 37, 38, 39, 23, 40, 41, 42, 43, 44, 45, 46, 47, 48, 49, 50, 51, 52, 53, 102, 103, 104, 105, 106, 107, 108, 109, 110, 111, 112, 113, 114, 132, 133, 134, 135, 136, 137, 138] (by decide +kernel) (by decide +kernel)
set_option maxRecDepth 20000 in
theorem gX6_init_X5_init_n36 : GoodIn wsX6_init (wsX5_init) := ggX6_init_X5_init
set_option maxRecDepth 20000 in
theorem ggX6_init_X3_init : GoodIn wsX6_init wsX3_init := goodIn_r _ [75, 76, 2, 3, 77, 23, 78, 79, 80, 81, 139, 140, 141, 142, 143] (by decide +kernel) (by decide +kernel)
set_option maxRecDepth 20000 in
theorem gX6_init_X3_init_n43 : GoodIn wsX6_init (wsX3_init) := ggX6_init_X3_init
set_option maxRecDepth 20000 in
theorem ggX6_init_X1_init : GoodIn wsX6_init wsX1_init := goodIn_r _ [83, 84, 2, 3, 85, 5, 6, 86, 23, 87, 88, 89, 90, 91, 92, 93, 94, 34, 35, 36, 37, 38, 39, 40, 41, 42, 43, 44, 45, 46, 47, 48, 49, 50, 51, 52, 53, 102, 103, 104, 105, 106, 107, 108, 109, 110, 111, 112, 113, 114, 144, 145, 146, 147, 148, 149, 150, 151, 152] (by decide +kernel) (by decide +kernel)
set_option maxRecDepth 20000 in
theorem gX6_init_X1_init_n54 : GoodIn wsX6_init (wsX1_init) := ggX6_init_X1_init
set_option maxRecDepth 20000 in
theorem ggX6_init_X2_init : GoodIn wsX6_init wsX2_init := goodIn_r _ [96, 97, 2, 3, 23, 98, 99, 100, 101, 153, 154, 155, 156] (by decide +kernel) (by decide +kernel)
set_option maxRecDepth 20000 in
theorem gX6_init_X2_init_n68 : GoodIn wsX6_init (wsX2_init) := ggX6_init_X2_init
theorem dX6_init_0 : decode cX6_init 0 = .ok (.aload_n 0, 1) := by decide +kernel
theorem dX6_init_1 : decode cX6_init 1 = .ok (.invokespecial 3, 3) := by decide +kernel
theorem dX6_init_4 : decode cX6_init 4 = .ok (.aload_n 0, 1) := by decide +kernel
theorem dX6_init_5 : decode cX6_init 5 = .ok (.new 9, 3) := by decide +kernel
theorem dX6_init_8 : decode cX6_init 8 = .ok (.dup, 1) := by decide +kernel
theorem dX6_init_9 : decode cX6_init 9 = .ok (.invokespecial 11, 3) := by decide +kernel
theorem dX6_init_12 : decode cX6_init 12 = .ok (.putfield 12, 3) := by decide +kernel
theorem dX6_init_15 : decode cX6_init 15 = .ok (.aload_n 0, 1) := by decide +kernel
theorem dX6_init_16 : decode cX6_init 16 = .ok (.new 9, 3) := by decide +kernel
theorem dX6_init_19 : decode cX6_init 19 = .ok (.dup, 1) := by decide +kernel
theorem dX6_init_20 : decode cX6_init 20 = .ok (.invokespecial 11, 3) := by decide +kernel
theorem dX6_init_23 : decode cX6_init 23 = .ok (.putfield 16, 3) := by decide +kernel
theorem dX6_init_26 : decode cX6_init 26 = .ok (.aload_n 0, 1) := by decide +kernel
theorem dX6_init_27 : decode cX6_init 27 = .ok (.iconst 2, 1) := by decide +kernel
theorem dX6_init_28 : decode cX6_init 28 = .ok (.anewarray 9, 3) := by decide +kernel
theorem dX6_init_31 : decode cX6_init 31 = .ok (.putfield 19, 3) := by decide +kernel
theorem dX6_init_34 : decode cX6_init 34 = .ok (.aload_n 0, 1) := by decide +kernel
theorem dX6_init_35 : decode cX6_init 35 = .ok (.iconst 0, 1) := by decide +kernel
theorem dX6_init_36 : decode cX6_init 36 = .ok (.putfield 23, 3) := by decide +kernel
theorem dX6_init_39 : decode cX6_init 39 = .ok (.aload_n 0, 1) := by decide +kernel
theorem dX6_init_40 : decode cX6_init 40 = .ok (.new 27, 3) := by decide +kernel
theorem dX6_init_43 : decode cX6_init 43 = .ok (.dup, 1) := by decide +kernel
theorem dX6_init_44 : decode cX6_init 44 = .ok (.invokespecial 29, 3) := by decide +kernel
theorem dX6_init_47 : decode cX6_init 47 = .ok (.putfield 30, 3) := by decide +kernel
theorem dX6_init_50 : decode cX6_init 50 = .ok (.aload_n 0, 1) := by decide +kernel
theorem dX6_init_51 : decode cX6_init 51 = .ok (.new 34, 3) := by decide +kernel
theorem dX6_init_54 : decode cX6_init 54 = .ok (.dup, 1) := by decide +kernel
theorem dX6_init_55 : decode cX6_init 55 = .ok (.invokespecial 36, 3) := by decide +kernel
theorem dX6_init_58 : decode cX6_init 58 = .ok (.putfield 37, 3) := by decide +kernel
theorem dX6_init_61 : decode cX6_init 61 = .ok (.aload_n 0, 1) := by decide +kernel
theorem dX6_init_62 : decode cX6_init 62 = .ok (.new 41, 3) := by decide +kernel
theorem dX6_init_65 : decode cX6_init 65 = .ok (.dup, 1) := by decide +kernel
theorem dX6_init_66 : decode cX6_init 66 = .ok (.invokespecial 43, 3) := by decide +kernel
theorem dX6_init_69 : decode cX6_init 69 = .ok (.putfield 44, 3) := by decide +kernel
theorem dX6_init_72 : decode cX6_init 72 = .ok (.aload_n 0, 1) := by decide +kernel
theorem dX6_init_73 : decode cX6_init 73 = .ok (.sipush 420, 3) := by decide +kernel
theorem dX6_init_76 : decode cX6_init 76 = .ok (.newarray .int, 2) := by decide +kernel
theorem dX6_init_78 : decode cX6_init 78 = .ok (.putfield 48, 3) := by decide +kernel
theorem dX6_init_81 : decode cX6_init 81 = .ok (.aload_n 0, 1) := by decide +kernel
theorem dX6_init_82 : decode cX6_init 82 = .ok (.new 52, 3) := by decide +kernel
theorem dX6_init_85 : decode cX6_init 85 = .ok (.dup, 1) := by decide +kernel
theorem dX6_init_86 : decode cX6_init 86 = .ok (.invokespecial 54, 3) := by decide +kernel
theorem dX6_init_89 : decode cX6_init 89 = .ok (.putfield 55, 3) := by decide +kernel
theorem dX6_init_92 : decode cX6_init 92 = .ok (.aload_n 0, 1) := by decide +kernel
theorem dX6_init_93 : decode cX6_init 93 = .ok (.iconst 4, 1) := by decide +kernel
theorem dX6_init_94 : decode cX6_init 94 = .ok (.anewarray 59, 3) := by decide +kernel
theorem dX6_init_97 : decode cX6_init 97 = .ok (.putfield 61, 3) := by decide +kernel
theorem dX6_init_100 : decode cX6_init 100 = .ok (.aload_n 0, 1) := by decide +kernel
theorem dX6_init_101 : decode cX6_init 101 = .ok (.iconst 0, 1) := by decide +kernel
theorem dX6_init_102 : decode cX6_init 102 = .ok (.putfield 65, 3) := by decide +kernel
theorem dX6_init_105 : decode cX6_init 105 = .ok (.iconst 0, 1) := by decide +kernel
theorem dX6_init_106 : decode cX6_init 106 = .ok (.istore_n 1, 1) := by decide +kernel
theorem dX6_init_107 : decode cX6_init 107 = .ok (.iload_n 1, 1) := by decide +kernel
theorem dX6_init_108 : decode cX6_init 108 = .ok (.iconst 2, 1) := by decide +kernel
theorem dX6_init_109 : decode cX6_init 109 = .ok (.if_icmp .ge 22, 3) := by decide +kernel
theorem dX6_init_112 : decode cX6_init 112 = .ok (.aload_n 0, 1) := by decide +kernel
theorem dX6_init_113 : decode cX6_init 113 = .ok (.getfield 19, 3) := by decide +kernel
theorem dX6_init_116 : decode cX6_init 116 = .ok (.iload_n 1, 1) := by decide +kernel
theorem dX6_init_117 : decode cX6_init 117 = .ok (.new 9, 3) := by decide +kernel
theorem dX6_init_120 : decode cX6_init 120 = .ok (.dup, 1) := by decide +kernel
theorem dX6_init_121 : decode cX6_init 121 = .ok (.invokespecial 11, 3) := by decide +kernel
theorem dX6_init_124 : decode cX6_init 124 = .ok (.aastore, 1) := by decide +kernel
theorem dX6_init_125 : decode cX6_init 125 = .ok (.iinc 1 1, 3) := by decide +kernel
theorem dX6_init_128 : decode cX6_init 128 = .ok (.goto (-21), 3) := by decide +kernel
theorem dX6_init_131 : decode cX6_init 131 = .ok (.iconst 0, 1) := by decide +kernel
theorem dX6_init_132 : decode cX6_init 132 = .ok (.istore_n 1, 1) := by decide +kernel
theorem dX6_init_133 : decode cX6_init 133 = .ok (.iload_n 1, 1) := by decide +kernel
theorem dX6_init_134 : decode cX6_init 134 = .ok (.iconst 4, 1) := by decide +kernel
theorem dX6_init_135 : decode cX6_init 135 = .ok (.if_icmp .ge 22, 3) := by decide +kernel
theorem dX6_init_138 : decode cX6_init 138 = .ok (.aload_n 0, 1) := by decide +kernel
theorem dX6_init_139 : decode cX6_init 139 = .ok (.getfield 61, 3) := by decide +kernel
theorem dX6_init_142 : decode cX6_init 142 = .ok (.iload_n 1, 1) := by decide +kernel
theorem dX6_init_143 : decode cX6_init 143 = .ok (.new 59, 3) := by decide +kernel
theorem dX6_init_146 : decode cX6_init 146 = .ok (.dup, 1) := by decide +kernel
theorem dX6_init_147 : decode cX6_init 147 = .ok (.invokespecial 68, 3) := by decide +kernel
theorem dX6_init_150 : decode cX6_init 150 = .ok (.aastore, 1) := by decide +kernel
theorem dX6_init_151 : decode cX6_init 151 = .ok (.iinc 1 1, 3) := by decide +kernel
theorem dX6_init_154 : decode cX6_init 154 = .ok (.goto (-21), 3) := by decide +kernel
theorem dX6_init_157 : decode cX6_init 157 = .ok (.return_, 1) := by decide +kernel
set_option maxRecDepth 20000 in
theorem ggX6_feed_X6_isWithin : GoodIn wsX6_feed wsX6_isWithin := goodIn_r _ [5] (by decide +kernel) (by decide +kernel)
set_option maxRecDepth 20000 in
theorem gX6_feed_X6_isWithin : GoodIn wsX6_feed (va_wsS RX6 69 yX6_isWithin wsX6_isWithin) := goodIn_app (goodIn_of _ (by decide +kernel)) ggX6_feed_X6_isWithin
set_option maxRecDepth 20000 in
theorem ggX6_feed_X4_append : GoodIn wsX6_feed wsX4_append := goodIn_r _ [9, 10, 11, 23, 24, 25, 26, 27, 28] (by decide +kernel) (by decide +kernel)
set_option maxRecDepth 20000 in
theorem gX6_feed_X4_append_n73 : GoodIn wsX6_feed (wsX4_append) := ggX6_feed_X4_append
theorem dX6_feed_0 : decode cX6_feed 0 = .ok (.iload_n 1, 1) := by decide +kernel
theorem dX6_feed_1 : decode cX6_feed 1 = .ok (.iconst 0, 1) := by decide +kernel
theorem dX6_feed_2 : decode cX6_feed 2 = .ok (.bipush 127, 2) := by decide +kernel
theorem dX6_feed_4 : decode cX6_feed 4 = .ok (.invokestatic 69, 3) := by decide +kernel
theorem dX6_feed_7 : decode cX6_feed 7 = .ok (.ifCond .ne 5, 3) := by decide +kernel
theorem dX6_feed_10 : decode cX6_feed 10 = .ok (.iconst (-1), 1) := by decide +kernel
theorem dX6_feed_11 : decode cX6_feed 11 = .ok (.ireturn, 1) := by decide +kernel
theorem dX6_feed_12 : decode cX6_feed 12 = .ok (.aload_n 0, 1) := by decide +kernel
theorem dX6_feed_13 : decode cX6_feed 13 = .ok (.getfield 30, 3) := by decide +kernel
theorem dX6_feed_16 : decode cX6_feed 16 = .ok (.iload_n 1, 1) := by decide +kernel
theorem dX6_feed_17 : decode cX6_feed 17 = .ok (.invokevirtual 73, 3) := by decide +kernel
theorem dX6_feed_20 : decode cX6_feed 20 = .ok (.ifCond .eq 13, 3) := by decide +kernel
theorem dX6_feed_23 : decode cX6_feed 23 = .ok (.aload_n 0, 1) := by decide +kernel
theorem dX6_feed_24 : decode cX6_feed 24 = .ok (.getfield 30, 3) := by decide +kernel
theorem dX6_feed_27 : decode cX6_feed 27 = .ok (.getfield 77, 3) := by decide +kernel
theorem dX6_feed_30 : decode cX6_feed 30 = .ok (.goto 5, 3) := by decide +kernel
theorem dX6_feed_33 : decode cX6_feed 33 = .ok (.bipush (-3), 2) := by decide +kernel
theorem dX6_feed_35 : decode cX6_feed 35 = .ok (.ireturn, 1) := by decide +kernel
set_option maxRecDepth 20000 in
theorem ggX6_end_X6_isWithin : GoodIn wsX6_end wsX6_isWithin := goodIn_r _ [5] (by decide +kernel) (by decide +kernel)
set_option maxRecDepth 20000 in
theorem gX6_end_X6_isWithin : GoodIn wsX6_end (va_wsS RX6 69 yX6_isWithin wsX6_isWithin) := goodIn_app (goodIn_of _ (by decide +kernel)) ggX6_end_X6_isWithin
theorem dX6_end_0 : decode cX6_end 0 = .ok (.iload_n 1, 1) := by decide +kernel
theorem dX6_end_1 : decode cX6_end 1 = .ok (.iconst 0, 1) := by decide +kernel
theorem dX6_end_2 : decode cX6_end 2 = .ok (.aload_n 0, 1) := by decide +kernel
theorem dX6_end_3 : decode cX6_end 3 = .ok (.getfield 30, 3) := by decide +kernel
theorem dX6_end_6 : decode cX6_end 6 = .ok (.getfield 77, 3) := by decide +kernel
theorem dX6_end_9 : decode cX6_end 9 = .ok (.invokestatic 69, 3) := by decide +kernel
theorem dX6_end_12 : decode cX6_end 12 = .ok (.ifCond .ne 5, 3) := by decide +kernel
theorem dX6_end_15 : decode cX6_end 15 = .ok (.iconst (-1), 1) := by decide +kernel
theorem dX6_end_16 : decode cX6_end 16 = .ok (.ireturn, 1) := by decide +kernel
theorem dX6_end_17 : decode cX6_end 17 = .ok (.aload_n 0, 1) := by decide +kernel
theorem dX6_end_18 : decode cX6_end 18 = .ok (.getfield 30, 3) := by decide +kernel
theorem dX6_end_21 : decode cX6_end 21 = .ok (.getfield 77, 3) := by decide +kernel
theorem dX6_end_24 : decode cX6_end 24 = .ok (.istore_n 2, 1) := by decide +kernel
theorem dX6_end_25 : decode cX6_end 25 = .ok (.aload_n 0, 1) := by decide +kernel
theorem dX6_end_26 : decode cX6_end 26 = .ok (.getfield 30, 3) := by decide +kernel
theorem dX6_end_29 : decode cX6_end 29 = .ok (.iload_n 1, 1) := by decide +kernel
theorem dX6_end_30 : decode cX6_end 30 = .ok (.putfield 77, 3) := by decide +kernel
theorem dX6_end_33 : decode cX6_end 33 = .ok (.iload_n 2, 1) := by decide +kernel
theorem dX6_end_34 : decode cX6_end 34 = .ok (.ireturn, 1) := by decide +kernel
set_option maxRecDepth 20000 in
theorem ggX6_text_X5_readAll : GoodIn wsX6_text wsX5_readAll := goodIn_r _ [9, 10, 11, 12, 13, 14, 15, 16, 17, 18, 19, 20, 21, 22, 23, 24, 25, 26, 27, 28, 29, 30, 31, 32, 33, 34, 35, 36, 37, 38, 39, 40, 7, 41, 42, 43, 44, 45, 46, 47, 48, 49, 50, 51, 52, 53, 54, 55, 56, 57, 58, 59, 60, 61, 62, 63, 64, 65, 66, 67, 68, 69, 70, 71, 72, 73, 74, 75, 76, 77, 78, 79, 80, 81, 82, 83, 84, 85, 86, 87, 88, 89, 90, 91, 92, 93, 94, 95, 96, 97, 98, 99, 100, 101, 102, 103, 104, 105, 106, 107, 108, 109, 110, 111, 112, 113, 114, 115, 116, 117, 118, 119, 120, 121, 122, 123, 124, 125, 126, 127, 128, 129, 130, 131, 132, 133, 134, 135, 136, 137, 138, 139, 140, 141, 142, 143, 144, 145, 146, 147, 148, 149, 150, 151, 152, 153, 154, 155, 156, 157, 158, 159, 160, 161, 162, 163, 164, 189, 190, 191, 192, 193, 194, 195, 201, 202, 203, 204, 205, 206, 207, 208, 209, 210, 211, 212, 213, 183, 184, 185, 186, 187, 188] (by decide +kernel) (by decide +kernel)
set_option maxRecDepth 20000 in
theorem gX6_text_X5_readAll_n80 : GoodIn wsX6_text (wsX5_readAll) := ggX6_text_X5_readAll
set_option maxRecDepth 20000 in
theorem ggX6_text_X0_copyFrom : GoodIn wsX6_text wsX0_copyFrom := goodIn_r _ [167, 21, 22, 23, 143, 168, 169, 170, 171, 144, 145, 24, 25, 26, 161, 162, 163, 164, 201, 202, 203, 204, 205, 206, 207, 208, 209, 210, 211, 212, 213] (by decide +kernel) (by decide +kernel)
set_option maxRecDepth 20000 in
theorem gX6_text_X0_copyFrom_n93 : GoodIn wsX6_text (wsX0_copyFrom) := ggX6_text_X0_copyFrom
theorem dX6_text_0 : decode cX6_text 0 = .ok (.aload_n 0, 1) := by decide +kernel
theorem dX6_text_1 : decode cX6_text 1 = .ok (.getfield 37, 3) := by decide +kernel
theorem dX6_text_4 : decode cX6_text 4 = .ok (.aload_n 0, 1) := by decide +kernel
theorem dX6_text_5 : decode cX6_text 5 = .ok (.getfield 30, 3) := by decide +kernel
theorem dX6_text_8 : decode cX6_text 8 = .ok (.invokevirtual 80, 3) := by decide +kernel
theorem dX6_text_11 : decode cX6_text 11 = .ok (.aload_n 0, 1) := by decide +kernel
theorem dX6_text_12 : decode cX6_text 12 = .ok (.getfield 30, 3) := by decide +kernel
theorem dX6_text_15 : decode cX6_text 15 = .ok (.iconst 0, 1) := by decide +kernel
theorem dX6_text_16 : decode cX6_text 16 = .ok (.putfield 77, 3) := by decide +kernel
theorem dX6_text_19 : decode cX6_text 19 = .ok (.aload_n 0, 1) := by decide +kernel
theorem dX6_text_20 : decode cX6_text 20 = .ok (.getfield 37, 3) := by decide +kernel
theorem dX6_text_23 : decode cX6_text 23 = .ok (.getfield 84, 3) := by decide +kernel
theorem dX6_text_26 : decode cX6_text 26 = .ok (.ifCond .eq 14, 3) := by decide +kernel
theorem dX6_text_29 : decode cX6_text 29 = .ok (.bipush (-10), 2) := by decide +kernel
theorem dX6_text_31 : decode cX6_text 31 = .ok (.aload_n 0, 1) := by decide +kernel
theorem dX6_text_32 : decode cX6_text 32 = .ok (.getfield 37, 3) := by decide +kernel
theorem dX6_text_35 : decode cX6_text 35 = .ok (.getfield 87, 3) := by decide +kernel
theorem dX6_text_38 : decode cX6_text 38 = .ok (.isub, 1) := by decide +kernel
theorem dX6_text_39 : decode cX6_text 39 = .ok (.ireturn, 1) := by decide +kernel
theorem dX6_text_40 : decode cX6_text 40 = .ok (.aload_n 0, 1) := by decide +kernel
theorem dX6_text_41 : decode cX6_text 41 = .ok (.getfield 12, 3) := by decide +kernel
theorem dX6_text_44 : decode cX6_text 44 = .ok (.aload_n 0, 1) := by decide +kernel
theorem dX6_text_45 : decode cX6_text 45 = .ok (.getfield 37, 3) := by decide +kernel
theorem dX6_text_48 : decode cX6_text 48 = .ok (.getfield 90, 3) := by decide +kernel
theorem dX6_text_51 : decode cX6_text 51 = .ok (.invokevirtual 93, 3) := by decide +kernel
theorem dX6_text_54 : decode cX6_text 54 = .ok (.aload_n 0, 1) := by decide +kernel
theorem dX6_text_55 : decode cX6_text 55 = .ok (.getfield 44, 3) := by decide +kernel
theorem dX6_text_58 : decode cX6_text 58 = .ok (.iconst 0, 1) := by decide +kernel
theorem dX6_text_59 : decode cX6_text 59 = .ok (.putfield 97, 3) := by decide +kernel
theorem dX6_text_62 : decode cX6_text 62 = .ok (.aload_n 0, 1) := by decide +kernel
theorem dX6_text_63 : decode cX6_text 63 = .ok (.iconst 0, 1) := by decide +kernel
theorem dX6_text_64 : decode cX6_text 64 = .ok (.putfield 23, 3) := by decide +kernel
theorem dX6_text_67 : decode cX6_text 67 = .ok (.aload_n 0, 1) := by decide +kernel
theorem dX6_text_68 : decode cX6_text 68 = .ok (.getfield 37, 3) := by decide +kernel
theorem dX6_text_71 : decode cX6_text 71 = .ok (.getfield 100, 3) := by decide +kernel
theorem dX6_text_74 : decode cX6_text 74 = .ok (.ireturn, 1) := by decide +kernel
theorem dX6_fault_0 : decode cX6_fault 0 = .ok (.aload_n 0, 1) := by decide +kernel
theorem dX6_fault_1 : decode cX6_fault 1 = .ok (.getfield 37, 3) := by decide +kernel
theorem dX6_fault_4 : decode cX6_fault 4 = .ok (.getfield 84, 3) := by decide +kernel
theorem dX6_fault_7 : decode cX6_fault 7 = .ok (.ireturn, 1) := by decide +kernel
set_option maxRecDepth 20000 in
theorem ggX6_rule_X6_sumOf : GoodIn wsX6_rule wsX6_sumOf := goodIn_r _ [5] (by decide +kernel) (by decide +kernel)
set_option maxRecDepth 20000 in
theorem gX6_rule_X6_sumOf : GoodIn wsX6_rule (va_wsS RX6 115 yX6_sumOf wsX6_sumOf) := goodIn_app (goodIn_of _ (by decide +kernel)) ggX6_rule_X6_sumOf
set_option maxRecDepth 20000 in
theorem ggX6_rule_X0_bareGeese : GoodIn wsX6_rule wsX0_bareGeese := goodIn_r _ [9, 10, 11, 12, 13, 7, 14, 15, 16, 17, 18, 19, 31, 32, 33, 34, 35, 36, 37, 38, 39, 40, 41, 42, 43] (by decide +kernel) (by decide +kernel)
set_option maxRecDepth 20000 in
theorem gX6_rule_X0_bareGeese_n122 : GoodIn wsX6_rule (wsX0_bareGeese) := ggX6_rule_X0_bareGeese
theorem dX6_rule_0 : decode cX6_rule 0 = .ok (.iload_n 1, 1) := by decide +kernel
theorem dX6_rule_1 : decode cX6_rule 1 = .ok (.tableswitch 93 0 5 #[39, 47, 55, 63, 74, 85], 39) := by decide +kernel
theorem dX6_rule_40 : decode cX6_rule 40 = .ok (.aload_n 0, 1) := by decide +kernel
theorem dX6_rule_41 : decode cX6_rule 41 = .ok (.getfield 12, 3) := by decide +kernel
theorem dX6_rule_44 : decode cX6_rule 44 = .ok (.getfield 103, 3) := by decide +kernel
theorem dX6_rule_47 : decode cX6_rule 47 = .ok (.ireturn, 1) := by decide +kernel
theorem dX6_rule_48 : decode cX6_rule 48 = .ok (.aload_n 0, 1) := by decide +kernel
theorem dX6_rule_49 : decode cX6_rule 49 = .ok (.getfield 12, 3) := by decide +kernel
theorem dX6_rule_52 : decode cX6_rule 52 = .ok (.getfield 106, 3) := by decide +kernel
theorem dX6_rule_55 : decode cX6_rule 55 = .ok (.ireturn, 1) := by decide +kernel
theorem dX6_rule_56 : decode cX6_rule 56 = .ok (.aload_n 0, 1) := by decide +kernel
theorem dX6_rule_57 : decode cX6_rule 57 = .ok (.getfield 12, 3) := by decide +kernel
theorem dX6_rule_60 : decode cX6_rule 60 = .ok (.getfield 109, 3) := by decide +kernel
theorem dX6_rule_63 : decode cX6_rule 63 = .ok (.ireturn, 1) := by decide +kernel
theorem dX6_rule_64 : decode cX6_rule 64 = .ok (.aload_n 0, 1) := by decide +kernel
theorem dX6_rule_65 : decode cX6_rule 65 = .ok (.getfield 12, 3) := by decide +kernel
theorem dX6_rule_68 : decode cX6_rule 68 = .ok (.getfield 112, 3) := by decide +kernel
theorem dX6_rule_71 : decode cX6_rule 71 = .ok (.invokestatic 115, 3) := by decide +kernel
theorem dX6_rule_74 : decode cX6_rule 74 = .ok (.ireturn, 1) := by decide +kernel
theorem dX6_rule_75 : decode cX6_rule 75 = .ok (.aload_n 0, 1) := by decide +kernel
theorem dX6_rule_76 : decode cX6_rule 76 = .ok (.getfield 12, 3) := by decide +kernel
theorem dX6_rule_79 : decode cX6_rule 79 = .ok (.getfield 119, 3) := by decide +kernel
theorem dX6_rule_82 : decode cX6_rule 82 = .ok (.invokestatic 115, 3) := by decide +kernel
theorem dX6_rule_85 : decode cX6_rule 85 = .ok (.ireturn, 1) := by decide +kernel
theorem dX6_rule_86 : decode cX6_rule 86 = .ok (.aload_n 0, 1) := by decide +kernel
theorem dX6_rule_87 : decode cX6_rule 87 = .ok (.getfield 12, 3) := by decide +kernel
theorem dX6_rule_90 : decode cX6_rule 90 = .ok (.invokevirtual 122, 3) := by decide +kernel
theorem dX6_rule_93 : decode cX6_rule 93 = .ok (.ireturn, 1) := by decide +kernel
theorem dX6_rule_94 : decode cX6_rule 94 = .ok (.iconst (-1), 1) := by decide +kernel
theorem dX6_rule_95 : decode cX6_rule 95 = .ok (.ireturn, 1) := by decide +kernel
set_option maxRecDepth 20000 in
theorem ggX6_goose_X0_hasGoose : GoodIn wsX6_goose wsX0_hasGoose := goodIn_r _ [5, 6, 7, 8, 9, 33, 34, 35, 36, 37, 38, 39, 40, 41, 42, 43, 44, 45] (by decide +kernel) (by decide +kernel)
set_option maxRecDepth 20000 in
theorem gX6_goose_X0_hasGoose_n126 : GoodIn wsX6_goose (wsX0_hasGoose) := ggX6_goose_X0_hasGoose
set_option maxRecDepth 20000 in
theorem ggX6_goose_X0_feathersOf : GoodIn wsX6_goose wsX0_feathersOf := goodIn_r _ [12, 13, 14, 15, 3, 16, 17, 33, 34, 35, 36, 37, 38, 39, 40, 41, 42, 43, 44, 45] (by decide +kernel) (by decide +kernel)
set_option maxRecDepth 20000 in
theorem gX6_goose_X0_feathersOf_n138 : GoodIn wsX6_goose (wsX0_feathersOf) := ggX6_goose_X0_feathersOf
set_option maxRecDepth 20000 in
theorem ggX6_goose_X0_eggOwner : GoodIn wsX6_goose wsX0_eggOwner := goodIn_r _ [20, 21, 13, 14, 15, 3, 16, 17, 33, 34, 35, 36, 37, 38, 39, 40, 41, 42, 43, 44, 45] (by decide +kernel) (by decide +kernel)
set_option maxRecDepth 20000 in
theorem gX6_goose_X0_eggOwner_n142 : GoodIn wsX6_goose (wsX0_eggOwner) := ggX6_goose_X0_eggOwner
theorem dX6_goose_0 : decode cX6_goose 0 = .ok (.aload_n 0, 1) := by decide +kernel
theorem dX6_goose_1 : decode cX6_goose 1 = .ok (.getfield 12, 3) := by decide +kernel
theorem dX6_goose_4 : decode cX6_goose 4 = .ok (.iload_n 1, 1) := by decide +kernel
theorem dX6_goose_5 : decode cX6_goose 5 = .ok (.invokevirtual 126, 3) := by decide +kernel
theorem dX6_goose_8 : decode cX6_goose 8 = .ok (.ifCond .ne 5, 3) := by decide +kernel
theorem dX6_goose_11 : decode cX6_goose 11 = .ok (.iconst (-1), 1) := by decide +kernel
theorem dX6_goose_12 : decode cX6_goose 12 = .ok (.ireturn, 1) := by decide +kernel
theorem dX6_goose_13 : decode cX6_goose 13 = .ok (.iload_n 2, 1) := by decide +kernel
theorem dX6_goose_14 : decode cX6_goose 14 = .ok (.tableswitch 82 0 4 #[34, 44, 54, 64, 73], 34) := by decide +kernel
theorem dX6_goose_48 : decode cX6_goose 48 = .ok (.aload_n 0, 1) := by decide +kernel
theorem dX6_goose_49 : decode cX6_goose 49 = .ok (.getfield 12, 3) := by decide +kernel
theorem dX6_goose_52 : decode cX6_goose 52 = .ok (.getfield 129, 3) := by decide +kernel
theorem dX6_goose_55 : decode cX6_goose 55 = .ok (.iload_n 1, 1) := by decide +kernel
theorem dX6_goose_56 : decode cX6_goose 56 = .ok (.iaload, 1) := by decide +kernel
theorem dX6_goose_57 : decode cX6_goose 57 = .ok (.ireturn, 1) := by decide +kernel
theorem dX6_goose_58 : decode cX6_goose 58 = .ok (.aload_n 0, 1) := by decide +kernel
theorem dX6_goose_59 : decode cX6_goose 59 = .ok (.getfield 12, 3) := by decide +kernel
theorem dX6_goose_62 : decode cX6_goose 62 = .ok (.getfield 132, 3) := by decide +kernel
theorem dX6_goose_65 : decode cX6_goose 65 = .ok (.iload_n 1, 1) := by decide +kernel
theorem dX6_goose_66 : decode cX6_goose 66 = .ok (.iaload, 1) := by decide +kernel
theorem dX6_goose_67 : decode cX6_goose 67 = .ok (.ireturn, 1) := by decide +kernel
theorem dX6_goose_68 : decode cX6_goose 68 = .ok (.aload_n 0, 1) := by decide +kernel
theorem dX6_goose_69 : decode cX6_goose 69 = .ok (.getfield 12, 3) := by decide +kernel
theorem dX6_goose_72 : decode cX6_goose 72 = .ok (.getfield 135, 3) := by decide +kernel
theorem dX6_goose_75 : decode cX6_goose 75 = .ok (.iload_n 1, 1) := by decide +kernel
theorem dX6_goose_76 : decode cX6_goose 76 = .ok (.iaload, 1) := by decide +kernel
theorem dX6_goose_77 : decode cX6_goose 77 = .ok (.ireturn, 1) := by decide +kernel
theorem dX6_goose_78 : decode cX6_goose 78 = .ok (.aload_n 0, 1) := by decide +kernel
theorem dX6_goose_79 : decode cX6_goose 79 = .ok (.getfield 12, 3) := by decide +kernel
theorem dX6_goose_82 : decode cX6_goose 82 = .ok (.iload_n 1, 1) := by decide +kernel
theorem dX6_goose_83 : decode cX6_goose 83 = .ok (.invokevirtual 138, 3) := by decide +kernel
theorem dX6_goose_86 : decode cX6_goose 86 = .ok (.ireturn, 1) := by decide +kernel
theorem dX6_goose_87 : decode cX6_goose 87 = .ok (.aload_n 0, 1) := by decide +kernel
theorem dX6_goose_88 : decode cX6_goose 88 = .ok (.getfield 12, 3) := by decide +kernel
theorem dX6_goose_91 : decode cX6_goose 91 = .ok (.iload_n 1, 1) := by decide +kernel
theorem dX6_goose_92 : decode cX6_goose 92 = .ok (.invokevirtual 142, 3) := by decide +kernel
theorem dX6_goose_95 : decode cX6_goose 95 = .ok (.ireturn, 1) := by decide +kernel
theorem dX6_goose_96 : decode cX6_goose 96 = .ok (.iconst (-1), 1) := by decide +kernel
theorem dX6_goose_97 : decode cX6_goose 97 = .ok (.ireturn, 1) := by decide +kernel
set_option maxRecDepth 20000 in
theorem ggX6_owner_X6_isOwner : GoodIn wsX6_owner wsX6_isOwner := goodIn_r _ [5, 6, 7, 4, 8] (by decide +kernel) (by decide +kernel)
set_option maxRecDepth 20000 in
theorem gX6_owner_X6_isOwner : GoodIn wsX6_owner (va_wsS RX6 145 yX6_isOwner wsX6_isOwner) := goodIn_app (goodIn_of _ (by decide +kernel)) ggX6_owner_X6_isOwner
set_option maxRecDepth 20000 in
theorem ggX6_owner_X0_ofOwner : GoodIn wsX6_owner wsX0_ofOwner := goodIn_r _ [12, 13, 14, 15, 16, 17, 10, 18, 19, 20, 21, 22, 23, 24, 25, 26, 27, 28, 29, 30, 31, 32, 33, 34, 46, 47, 48, 49, 50, 51, 52, 53, 54, 55, 56, 57, 58] (by decide +kernel) (by decide +kernel)
set_option maxRecDepth 20000 in
theorem gX6_owner_X0_ofOwner_n148 : GoodIn wsX6_owner (wsX0_ofOwner) := ggX6_owner_X0_ofOwner
theorem dX6_owner_0 : decode cX6_owner 0 = .ok (.iload_n 1, 1) := by decide +kernel
theorem dX6_owner_1 : decode cX6_owner 1 = .ok (.invokestatic 145, 3) := by decide +kernel
theorem dX6_owner_4 : decode cX6_owner 4 = .ok (.ifCond .eq 15, 3) := by decide +kernel
theorem dX6_owner_7 : decode cX6_owner 7 = .ok (.aload_n 0, 1) := by decide +kernel
theorem dX6_owner_8 : decode cX6_owner 8 = .ok (.getfield 12, 3) := by decide +kernel
theorem dX6_owner_11 : decode cX6_owner 11 = .ok (.iload_n 1, 1) := by decide +kernel
theorem dX6_owner_12 : decode cX6_owner 12 = .ok (.iload_n 2, 1) := by decide +kernel
theorem dX6_owner_13 : decode cX6_owner 13 = .ok (.invokevirtual 148, 3) := by decide +kernel
theorem dX6_owner_16 : decode cX6_owner 16 = .ok (.goto 4, 3) := by decide +kernel
theorem dX6_owner_19 : decode cX6_owner 19 = .ok (.iconst (-1), 1) := by decide +kernel
theorem dX6_owner_20 : decode cX6_owner 20 = .ok (.ireturn, 1) := by decide +kernel
set_option maxRecDepth 20000 in
theorem ggX6_share_X0_hasGoose : GoodIn wsX6_share wsX0_hasGoose := goodIn_r _ [5, 6, 7, 8, 9, 29, 30, 31, 32, 33, 34, 35, 36, 37, 38, 39, 40, 41] (by decide +kernel) (by decide +kernel)
set_option maxRecDepth 20000 in
theorem gX6_share_X0_hasGoose_n126 : GoodIn wsX6_share (wsX0_hasGoose) := ggX6_share_X0_hasGoose
set_option maxRecDepth 20000 in
theorem ggX6_share_X6_isOwner : GoodIn wsX6_share wsX6_isOwner := goodIn_r _ [12, 13, 7, 8, 9] (by decide +kernel) (by decide +kernel)
set_option maxRecDepth 20000 in
theorem gX6_share_X6_isOwner : GoodIn wsX6_share (va_wsS RX6 145 yX6_isOwner wsX6_isOwner) := goodIn_app (goodIn_of _ (by decide +kernel)) ggX6_share_X6_isOwner
set_option maxRecDepth 20000 in
theorem ggX6_share_X0_held : GoodIn wsX6_share wsX0_held := goodIn_r _ [16, 17, 29, 30, 31, 32, 33, 34, 35, 36, 37, 38, 39, 40, 41] (by decide +kernel) (by decide +kernel)
set_option maxRecDepth 20000 in
theorem gX6_share_X0_held_n152 : GoodIn wsX6_share (wsX0_held) := ggX6_share_X0_held
theorem dX6_share_0 : decode cX6_share 0 = .ok (.aload_n 0, 1) := by decide +kernel
theorem dX6_share_1 : decode cX6_share 1 = .ok (.getfield 12, 3) := by decide +kernel
theorem dX6_share_4 : decode cX6_share 4 = .ok (.iload_n 1, 1) := by decide +kernel
theorem dX6_share_5 : decode cX6_share 5 = .ok (.invokevirtual 126, 3) := by decide +kernel
theorem dX6_share_8 : decode cX6_share 8 = .ok (.ifCond .eq 22, 3) := by decide +kernel
theorem dX6_share_11 : decode cX6_share 11 = .ok (.iload_n 2, 1) := by decide +kernel
theorem dX6_share_12 : decode cX6_share 12 = .ok (.invokestatic 145, 3) := by decide +kernel
theorem dX6_share_15 : decode cX6_share 15 = .ok (.ifCond .eq 15, 3) := by decide +kernel
theorem dX6_share_18 : decode cX6_share 18 = .ok (.aload_n 0, 1) := by decide +kernel
theorem dX6_share_19 : decode cX6_share 19 = .ok (.getfield 12, 3) := by decide +kernel
theorem dX6_share_22 : decode cX6_share 22 = .ok (.iload_n 1, 1) := by decide +kernel
theorem dX6_share_23 : decode cX6_share 23 = .ok (.iload_n 2, 1) := by decide +kernel
theorem dX6_share_24 : decode cX6_share 24 = .ok (.invokevirtual 152, 3) := by decide +kernel
theorem dX6_share_27 : decode cX6_share 27 = .ok (.goto 4, 3) := by decide +kernel
theorem dX6_share_30 : decode cX6_share 30 = .ok (.iconst (-1), 1) := by decide +kernel
theorem dX6_share_31 : decode cX6_share 31 = .ok (.ireturn, 1) := by decide +kernel
set_option maxRecDepth 20000 in
theorem ggX6_trade_X6_isWithin : GoodIn wsX6_trade wsX6_isWithin := goodIn_r _ [5] (by decide +kernel) (by decide +kernel)
set_option maxRecDepth 20000 in
theorem gX6_trade_X6_isWithin : GoodIn wsX6_trade (va_wsS RX6 69 yX6_isWithin wsX6_isWithin) := goodIn_app (goodIn_of _ (by decide +kernel)) ggX6_trade_X6_isWithin
theorem dX6_trade_0 : decode cX6_trade 0 = .ok (.iload_n 1, 1) := by decide +kernel
theorem dX6_trade_1 : decode cX6_trade 1 = .ok (.iconst 0, 1) := by decide +kernel
theorem dX6_trade_2 : decode cX6_trade 2 = .ok (.aload_n 0, 1) := by decide +kernel
theorem dX6_trade_3 : decode cX6_trade 3 = .ok (.getfield 12, 3) := by decide +kernel
theorem dX6_trade_6 : decode cX6_trade 6 = .ok (.getfield 109, 3) := by decide +kernel
theorem dX6_trade_9 : decode cX6_trade 9 = .ok (.iconst 1, 1) := by decide +kernel
theorem dX6_trade_10 : decode cX6_trade 10 = .ok (.isub, 1) := by decide +kernel
theorem dX6_trade_11 : decode cX6_trade 11 = .ok (.invokestatic 69, 3) := by decide +kernel
theorem dX6_trade_14 : decode cX6_trade 14 = .ok (.ifCond .ne 5, 3) := by decide +kernel
theorem dX6_trade_17 : decode cX6_trade 17 = .ok (.iconst (-1), 1) := by decide +kernel
theorem dX6_trade_18 : decode cX6_trade 18 = .ok (.ireturn, 1) := by decide +kernel
theorem dX6_trade_19 : decode cX6_trade 19 = .ok (.iload_n 2, 1) := by decide +kernel
theorem dX6_trade_20 : decode cX6_trade 20 = .ok (.tableswitch 72 0 3 #[32, 42, 52, 62], 32) := by decide +kernel
theorem dX6_trade_52 : decode cX6_trade 52 = .ok (.aload_n 0, 1) := by decide +kernel
theorem dX6_trade_53 : decode cX6_trade 53 = .ok (.getfield 12, 3) := by decide +kernel
theorem dX6_trade_56 : decode cX6_trade 56 = .ok (.getfield 155, 3) := by decide +kernel
theorem dX6_trade_59 : decode cX6_trade 59 = .ok (.iload_n 1, 1) := by decide +kernel
theorem dX6_trade_60 : decode cX6_trade 60 = .ok (.iaload, 1) := by decide +kernel
theorem dX6_trade_61 : decode cX6_trade 61 = .ok (.ireturn, 1) := by decide +kernel
theorem dX6_trade_62 : decode cX6_trade 62 = .ok (.aload_n 0, 1) := by decide +kernel
theorem dX6_trade_63 : decode cX6_trade 63 = .ok (.getfield 12, 3) := by decide +kernel
theorem dX6_trade_66 : decode cX6_trade 66 = .ok (.getfield 158, 3) := by decide +kernel
theorem dX6_trade_69 : decode cX6_trade 69 = .ok (.iload_n 1, 1) := by decide +kernel
theorem dX6_trade_70 : decode cX6_trade 70 = .ok (.iaload, 1) := by decide +kernel
theorem dX6_trade_71 : decode cX6_trade 71 = .ok (.ireturn, 1) := by decide +kernel
theorem dX6_trade_72 : decode cX6_trade 72 = .ok (.aload_n 0, 1) := by decide +kernel
theorem dX6_trade_73 : decode cX6_trade 73 = .ok (.getfield 12, 3) := by decide +kernel
theorem dX6_trade_76 : decode cX6_trade 76 = .ok (.getfield 161, 3) := by decide +kernel
theorem dX6_trade_79 : decode cX6_trade 79 = .ok (.iload_n 1, 1) := by decide +kernel
theorem dX6_trade_80 : decode cX6_trade 80 = .ok (.iaload, 1) := by decide +kernel
theorem dX6_trade_81 : decode cX6_trade 81 = .ok (.ireturn, 1) := by decide +kernel
theorem dX6_trade_82 : decode cX6_trade 82 = .ok (.aload_n 0, 1) := by decide +kernel
theorem dX6_trade_83 : decode cX6_trade 83 = .ok (.getfield 12, 3) := by decide +kernel
theorem dX6_trade_86 : decode cX6_trade 86 = .ok (.getfield 164, 3) := by decide +kernel
theorem dX6_trade_89 : decode cX6_trade 89 = .ok (.iload_n 1, 1) := by decide +kernel
theorem dX6_trade_90 : decode cX6_trade 90 = .ok (.iaload, 1) := by decide +kernel
theorem dX6_trade_91 : decode cX6_trade 91 = .ok (.ireturn, 1) := by decide +kernel
theorem dX6_trade_92 : decode cX6_trade 92 = .ok (.iconst (-1), 1) := by decide +kernel
theorem dX6_trade_93 : decode cX6_trade 93 = .ok (.ireturn, 1) := by decide +kernel
set_option maxRecDepth 20000 in
theorem ggX6_alter_X0_hasGoose : GoodIn wsX6_alter wsX0_hasGoose := goodIn_r _ [5, 6, 7, 8, 9, 28, 29, 30, 31, 32, 33, 34, 35, 36, 37, 38, 39, 40] (by decide +kernel) (by decide +kernel)
set_option maxRecDepth 20000 in
theorem gX6_alter_X0_hasGoose_n126 : GoodIn wsX6_alter (wsX0_hasGoose) := ggX6_alter_X0_hasGoose
set_option maxRecDepth 20000 in
theorem ggX6_alter_X6_isWithin : GoodIn wsX6_alter wsX6_isWithin := goodIn_r _ [9] (by decide +kernel) (by decide +kernel)
set_option maxRecDepth 20000 in
theorem gX6_alter_X6_isWithin : GoodIn wsX6_alter (va_wsS RX6 69 yX6_isWithin wsX6_isWithin) := goodIn_app (goodIn_of _ (by decide +kernel)) ggX6_alter_X6_isWithin
set_option maxRecDepth 20000 in
theorem ggX6_alter_X6_replaced : GoodIn wsX6_alter wsX6_replaced := goodIn_r _ [13, 10, 7, 8, 9] (by decide +kernel) (by decide +kernel)
set_option maxRecDepth 20000 in
theorem gX6_alter_X6_replaced : GoodIn wsX6_alter (va_wsS RX6 167 yX6_replaced wsX6_replaced) := goodIn_app (goodIn_of _ (by decide +kernel)) ggX6_alter_X6_replaced
set_option maxRecDepth 20000 in
theorem ggX6_alter_X6_isOwner : GoodIn wsX6_alter wsX6_isOwner := goodIn_r _ [16, 10, 7, 8, 9] (by decide +kernel) (by decide +kernel)
set_option maxRecDepth 20000 in
theorem gX6_alter_X6_isOwner : GoodIn wsX6_alter (va_wsS RX6 145 yX6_isOwner wsX6_isOwner) := goodIn_app (goodIn_of _ (by decide +kernel)) ggX6_alter_X6_isOwner
theorem dX6_alter_0 : decode cX6_alter 0 = .ok (.aload_n 0, 1) := by decide +kernel
theorem dX6_alter_1 : decode cX6_alter 1 = .ok (.getfield 12, 3) := by decide +kernel
theorem dX6_alter_4 : decode cX6_alter 4 = .ok (.iload_n 1, 1) := by decide +kernel
theorem dX6_alter_5 : decode cX6_alter 5 = .ok (.invokevirtual 126, 3) := by decide +kernel
theorem dX6_alter_8 : decode cX6_alter 8 = .ok (.ifCond .ne 5, 3) := by decide +kernel
theorem dX6_alter_11 : decode cX6_alter 11 = .ok (.iconst (-1), 1) := by decide +kernel
theorem dX6_alter_12 : decode cX6_alter 12 = .ok (.ireturn, 1) := by decide +kernel
theorem dX6_alter_13 : decode cX6_alter 13 = .ok (.iload_n 2, 1) := by decide +kernel
theorem dX6_alter_14 : decode cX6_alter 14 = .ok (.tableswitch 103 0 2 #[26, 52, 76], 26) := by decide +kernel
theorem dX6_alter_40 : decode cX6_alter 40 = .ok (.iload_n 3, 1) := by decide +kernel
theorem dX6_alter_41 : decode cX6_alter 41 = .ok (.iconst 0, 1) := by decide +kernel
theorem dX6_alter_42 : decode cX6_alter 42 = .ok (.iconst 3, 1) := by decide +kernel
theorem dX6_alter_43 : decode cX6_alter 43 = .ok (.invokestatic 69, 3) := by decide +kernel
theorem dX6_alter_46 : decode cX6_alter 46 = .ok (.ifCond .eq 18, 3) := by decide +kernel
theorem dX6_alter_49 : decode cX6_alter 49 = .ok (.aload_n 0, 1) := by decide +kernel
theorem dX6_alter_50 : decode cX6_alter 50 = .ok (.getfield 12, 3) := by decide +kernel
theorem dX6_alter_53 : decode cX6_alter 53 = .ok (.getfield 129, 3) := by decide +kernel
theorem dX6_alter_56 : decode cX6_alter 56 = .ok (.iload_n 1, 1) := by decide +kernel
theorem dX6_alter_57 : decode cX6_alter 57 = .ok (.iload_n 3, 1) := by decide +kernel
theorem dX6_alter_58 : decode cX6_alter 58 = .ok (.invokestatic 167, 3) := by decide +kernel
theorem dX6_alter_61 : decode cX6_alter 61 = .ok (.goto 4, 3) := by decide +kernel
theorem dX6_alter_64 : decode cX6_alter 64 = .ok (.iconst (-1), 1) := by decide +kernel
theorem dX6_alter_65 : decode cX6_alter 65 = .ok (.ireturn, 1) := by decide +kernel
theorem dX6_alter_66 : decode cX6_alter 66 = .ok (.iload_n 3, 1) := by decide +kernel
theorem dX6_alter_67 : decode cX6_alter 67 = .ok (.invokestatic 145, 3) := by decide +kernel
theorem dX6_alter_70 : decode cX6_alter 70 = .ok (.ifCond .eq 18, 3) := by decide +kernel
theorem dX6_alter_73 : decode cX6_alter 73 = .ok (.aload_n 0, 1) := by decide +kernel
theorem dX6_alter_74 : decode cX6_alter 74 = .ok (.getfield 12, 3) := by decide +kernel
theorem dX6_alter_77 : decode cX6_alter 77 = .ok (.getfield 132, 3) := by decide +kernel
theorem dX6_alter_80 : decode cX6_alter 80 = .ok (.iload_n 1, 1) := by decide +kernel
theorem dX6_alter_81 : decode cX6_alter 81 = .ok (.iload_n 3, 1) := by decide +kernel
theorem dX6_alter_82 : decode cX6_alter 82 = .ok (.invokestatic 167, 3) := by decide +kernel
theorem dX6_alter_85 : decode cX6_alter 85 = .ok (.goto 4, 3) := by decide +kernel
theorem dX6_alter_88 : decode cX6_alter 88 = .ok (.iconst (-1), 1) := by decide +kernel
theorem dX6_alter_89 : decode cX6_alter 89 = .ok (.ireturn, 1) := by decide +kernel
theorem dX6_alter_90 : decode cX6_alter 90 = .ok (.iload_n 3, 1) := by decide +kernel
theorem dX6_alter_91 : decode cX6_alter 91 = .ok (.iconst 1, 1) := by decide +kernel
theorem dX6_alter_92 : decode cX6_alter 92 = .ok (.bipush 9, 2) := by decide +kernel
theorem dX6_alter_94 : decode cX6_alter 94 = .ok (.invokestatic 69, 3) := by decide +kernel
theorem dX6_alter_97 : decode cX6_alter 97 = .ok (.ifCond .eq 18, 3) := by decide +kernel
theorem dX6_alter_100 : decode cX6_alter 100 = .ok (.aload_n 0, 1) := by decide +kernel
theorem dX6_alter_101 : decode cX6_alter 101 = .ok (.getfield 12, 3) := by decide +kernel
theorem dX6_alter_104 : decode cX6_alter 104 = .ok (.getfield 135, 3) := by decide +kernel
theorem dX6_alter_107 : decode cX6_alter 107 = .ok (.iload_n 1, 1) := by decide +kernel
theorem dX6_alter_108 : decode cX6_alter 108 = .ok (.iload_n 3, 1) := by decide +kernel
theorem dX6_alter_109 : decode cX6_alter 109 = .ok (.invokestatic 167, 3) := by decide +kernel
theorem dX6_alter_112 : decode cX6_alter 112 = .ok (.goto 4, 3) := by decide +kernel
theorem dX6_alter_115 : decode cX6_alter 115 = .ok (.iconst (-1), 1) := by decide +kernel
theorem dX6_alter_116 : decode cX6_alter 116 = .ok (.ireturn, 1) := by decide +kernel
theorem dX6_alter_117 : decode cX6_alter 117 = .ok (.iconst (-1), 1) := by decide +kernel
theorem dX6_alter_118 : decode cX6_alter 118 = .ok (.ireturn, 1) := by decide +kernel
set_option maxRecDepth 20000 in
theorem ggX6_purse_X6_isOwner : GoodIn wsX6_purse wsX6_isOwner := goodIn_r _ [5, 6, 7, 4, 8] (by decide +kernel) (by decide +kernel)
set_option maxRecDepth 20000 in
theorem gX6_purse_X6_isOwner : GoodIn wsX6_purse (va_wsS RX6 145 yX6_isOwner wsX6_isOwner) := goodIn_app (goodIn_of _ (by decide +kernel)) ggX6_purse_X6_isOwner
set_option maxRecDepth 20000 in
theorem ggX6_purse_X6_isWithin : GoodIn wsX6_purse wsX6_isWithin := goodIn_r _ [8] (by decide +kernel) (by decide +kernel)
set_option maxRecDepth 20000 in
theorem gX6_purse_X6_isWithin : GoodIn wsX6_purse (va_wsS RX6 69 yX6_isWithin wsX6_isWithin) := goodIn_app (goodIn_of _ (by decide +kernel)) ggX6_purse_X6_isWithin
set_option maxRecDepth 20000 in
theorem ggX6_purse_X6_replaced : GoodIn wsX6_purse wsX6_replaced := goodIn_r _ [11, 6, 7, 4, 8] (by decide +kernel) (by decide +kernel)
set_option maxRecDepth 20000 in
theorem gX6_purse_X6_replaced : GoodIn wsX6_purse (va_wsS RX6 167 yX6_replaced wsX6_replaced) := goodIn_app (goodIn_of _ (by decide +kernel)) ggX6_purse_X6_replaced
theorem dX6_purse_0 : decode cX6_purse 0 = .ok (.iload_n 1, 1) := by decide +kernel
theorem dX6_purse_1 : decode cX6_purse 1 = .ok (.invokestatic 145, 3) := by decide +kernel
theorem dX6_purse_4 : decode cX6_purse 4 = .ok (.ifCond .eq 29, 3) := by decide +kernel
theorem dX6_purse_7 : decode cX6_purse 7 = .ok (.iload_n 2, 1) := by decide +kernel
theorem dX6_purse_8 : decode cX6_purse 8 = .ok (.iconst 0, 1) := by decide +kernel
theorem dX6_purse_9 : decode cX6_purse 9 = .ok (.sipush 999, 3) := by decide +kernel
theorem dX6_purse_12 : decode cX6_purse 12 = .ok (.invokestatic 69, 3) := by decide +kernel
theorem dX6_purse_15 : decode cX6_purse 15 = .ok (.ifCond .eq 18, 3) := by decide +kernel
theorem dX6_purse_18 : decode cX6_purse 18 = .ok (.aload_n 0, 1) := by decide +kernel
theorem dX6_purse_19 : decode cX6_purse 19 = .ok (.getfield 12, 3) := by decide +kernel
theorem dX6_purse_22 : decode cX6_purse 22 = .ok (.getfield 112, 3) := by decide +kernel
theorem dX6_purse_25 : decode cX6_purse 25 = .ok (.iload_n 1, 1) := by decide +kernel
theorem dX6_purse_26 : decode cX6_purse 26 = .ok (.iload_n 2, 1) := by decide +kernel
theorem dX6_purse_27 : decode cX6_purse 27 = .ok (.invokestatic 167, 3) := by decide +kernel
theorem dX6_purse_30 : decode cX6_purse 30 = .ok (.goto 4, 3) := by decide +kernel
theorem dX6_purse_33 : decode cX6_purse 33 = .ok (.iconst (-1), 1) := by decide +kernel
theorem dX6_purse_34 : decode cX6_purse 34 = .ok (.ireturn, 1) := by decide +kernel
set_option maxRecDepth 20000 in
theorem ggX6_grant_X0_hasGoose : GoodIn wsX6_grant wsX0_hasGoose := goodIn_r _ [5, 6, 7, 8, 9, 28, 29, 30, 31, 32, 33, 34, 35, 36, 37, 38, 39, 40] (by decide +kernel) (by decide +kernel)
set_option maxRecDepth 20000 in
theorem gX6_grant_X0_hasGoose_n126 : GoodIn wsX6_grant (wsX0_hasGoose) := ggX6_grant_X0_hasGoose
set_option maxRecDepth 20000 in
theorem ggX6_grant_X6_isOwner : GoodIn wsX6_grant wsX6_isOwner := goodIn_r _ [12, 13, 7, 8, 9] (by decide +kernel) (by decide +kernel)
set_option maxRecDepth 20000 in
theorem gX6_grant_X6_isOwner : GoodIn wsX6_grant (va_wsS RX6 145 yX6_isOwner wsX6_isOwner) := goodIn_app (goodIn_of _ (by decide +kernel)) ggX6_grant_X6_isOwner
set_option maxRecDepth 20000 in
theorem ggX6_grant_X6_isWithin : GoodIn wsX6_grant wsX6_isWithin := goodIn_r _ [9] (by decide +kernel) (by decide +kernel)
set_option maxRecDepth 20000 in
theorem gX6_grant_X6_isWithin : GoodIn wsX6_grant (va_wsS RX6 69 yX6_isWithin wsX6_isWithin) := goodIn_app (goodIn_of _ (by decide +kernel)) ggX6_grant_X6_isWithin
set_option maxRecDepth 20000 in
theorem ggX6_grant_X6_replaced : GoodIn wsX6_grant wsX6_replaced := goodIn_r _ [16, 13, 7, 8, 9] (by decide +kernel) (by decide +kernel)
set_option maxRecDepth 20000 in
theorem gX6_grant_X6_replaced : GoodIn wsX6_grant (va_wsS RX6 167 yX6_replaced wsX6_replaced) := goodIn_app (goodIn_of _ (by decide +kernel)) ggX6_grant_X6_replaced
theorem dX6_grant_0 : decode cX6_grant 0 = .ok (.aload_n 0, 1) := by decide +kernel
theorem dX6_grant_1 : decode cX6_grant 1 = .ok (.getfield 12, 3) := by decide +kernel
theorem dX6_grant_4 : decode cX6_grant 4 = .ok (.iload_n 1, 1) := by decide +kernel
theorem dX6_grant_5 : decode cX6_grant 5 = .ok (.invokevirtual 126, 3) := by decide +kernel
theorem dX6_grant_8 : decode cX6_grant 8 = .ok (.ifCond .eq 20, 3) := by decide +kernel
theorem dX6_grant_11 : decode cX6_grant 11 = .ok (.iload_n 2, 1) := by decide +kernel
theorem dX6_grant_12 : decode cX6_grant 12 = .ok (.invokestatic 145, 3) := by decide +kernel
theorem dX6_grant_15 : decode cX6_grant 15 = .ok (.ifCond .eq 13, 3) := by decide +kernel
theorem dX6_grant_18 : decode cX6_grant 18 = .ok (.iload_n 3, 1) := by decide +kernel
theorem dX6_grant_19 : decode cX6_grant 19 = .ok (.iconst 0, 1) := by decide +kernel
theorem dX6_grant_20 : decode cX6_grant 20 = .ok (.bipush 99, 2) := by decide +kernel
theorem dX6_grant_22 : decode cX6_grant 22 = .ok (.invokestatic 69, 3) := by decide +kernel
theorem dX6_grant_25 : decode cX6_grant 25 = .ok (.ifCond .ne 5, 3) := by decide +kernel
theorem dX6_grant_28 : decode cX6_grant 28 = .ok (.iconst (-1), 1) := by decide +kernel
theorem dX6_grant_29 : decode cX6_grant 29 = .ok (.ireturn, 1) := by decide +kernel
theorem dX6_grant_30 : decode cX6_grant 30 = .ok (.aload_n 0, 1) := by decide +kernel
theorem dX6_grant_31 : decode cX6_grant 31 = .ok (.getfield 12, 3) := by decide +kernel
theorem dX6_grant_34 : decode cX6_grant 34 = .ok (.getfield 171, 3) := by decide +kernel
theorem dX6_grant_37 : decode cX6_grant 37 = .ok (.iload_n 1, 1) := by decide +kernel
theorem dX6_grant_38 : decode cX6_grant 38 = .ok (.iconst 5, 1) := by decide +kernel
theorem dX6_grant_39 : decode cX6_grant 39 = .ok (.imul, 1) := by decide +kernel
theorem dX6_grant_40 : decode cX6_grant 40 = .ok (.iload_n 2, 1) := by decide +kernel
theorem dX6_grant_41 : decode cX6_grant 41 = .ok (.iadd, 1) := by decide +kernel
theorem dX6_grant_42 : decode cX6_grant 42 = .ok (.iload_n 3, 1) := by decide +kernel
theorem dX6_grant_43 : decode cX6_grant 43 = .ok (.invokestatic 167, 3) := by decide +kernel
theorem dX6_grant_46 : decode cX6_grant 46 = .ok (.ireturn, 1) := by decide +kernel
set_option maxRecDepth 20000 in
theorem ggX6_plan_X0_isTrade : GoodIn wsX6_plan wsX0_isTrade := goodIn_r _ [5, 6, 7, 8, 9, 10, 11, 12, 13, 14, 3, 15, 16, 36, 37, 38, 39, 40, 41, 42, 43, 44, 45, 46, 47, 48] (by decide +kernel) (by decide +kernel)
set_option maxRecDepth 20000 in
theorem gX6_plan_X0_isTrade_n174 : GoodIn wsX6_plan (wsX0_isTrade) := ggX6_plan_X0_isTrade
set_option maxRecDepth 20000 in
theorem ggX6_plan_X0_addToPlan : GoodIn wsX6_plan wsX0_addToPlan := goodIn_r _ [19, 20, 21, 22, 23, 24, 36, 37, 38, 39, 40, 41, 42, 43, 44, 45, 46, 47, 48] (by decide +kernel) (by decide +kernel)
set_option maxRecDepth 20000 in
theorem gX6_plan_X0_addToPlan_n178 : GoodIn wsX6_plan (wsX0_addToPlan) := ggX6_plan_X0_addToPlan
theorem dX6_plan_0 : decode cX6_plan 0 = .ok (.aload_n 0, 1) := by decide +kernel
theorem dX6_plan_1 : decode cX6_plan 1 = .ok (.getfield 12, 3) := by decide +kernel
theorem dX6_plan_4 : decode cX6_plan 4 = .ok (.iload_n 1, 1) := by decide +kernel
theorem dX6_plan_5 : decode cX6_plan 5 = .ok (.iload_n 2, 1) := by decide +kernel
theorem dX6_plan_6 : decode cX6_plan 6 = .ok (.iload_n 3, 1) := by decide +kernel
theorem dX6_plan_7 : decode cX6_plan 7 = .ok (.iload 4, 2) := by decide +kernel
theorem dX6_plan_9 : decode cX6_plan 9 = .ok (.invokevirtual 174, 3) := by decide +kernel
theorem dX6_plan_12 : decode cX6_plan 12 = .ok (.ifCond .ne 5, 3) := by decide +kernel
theorem dX6_plan_15 : decode cX6_plan 15 = .ok (.iconst (-1), 1) := by decide +kernel
theorem dX6_plan_16 : decode cX6_plan 16 = .ok (.ireturn, 1) := by decide +kernel
theorem dX6_plan_17 : decode cX6_plan 17 = .ok (.aload_n 0, 1) := by decide +kernel
theorem dX6_plan_18 : decode cX6_plan 18 = .ok (.getfield 12, 3) := by decide +kernel
theorem dX6_plan_21 : decode cX6_plan 21 = .ok (.iload_n 1, 1) := by decide +kernel
theorem dX6_plan_22 : decode cX6_plan 22 = .ok (.iload_n 2, 1) := by decide +kernel
theorem dX6_plan_23 : decode cX6_plan 23 = .ok (.iload_n 3, 1) := by decide +kernel
theorem dX6_plan_24 : decode cX6_plan 24 = .ok (.iload 4, 2) := by decide +kernel
theorem dX6_plan_26 : decode cX6_plan 26 = .ok (.invokevirtual 178, 3) := by decide +kernel
theorem dX6_plan_29 : decode cX6_plan 29 = .ok (.ifCond .eq 13, 3) := by decide +kernel
theorem dX6_plan_32 : decode cX6_plan 32 = .ok (.aload_n 0, 1) := by decide +kernel
theorem dX6_plan_33 : decode cX6_plan 33 = .ok (.getfield 12, 3) := by decide +kernel
theorem dX6_plan_36 : decode cX6_plan 36 = .ok (.getfield 109, 3) := by decide +kernel
theorem dX6_plan_39 : decode cX6_plan 39 = .ok (.goto 5, 3) := by decide +kernel
theorem dX6_plan_42 : decode cX6_plan 42 = .ok (.bipush (-3), 2) := by decide +kernel
theorem dX6_plan_44 : decode cX6_plan 44 = .ok (.ireturn, 1) := by decide +kernel
set_option maxRecDepth 20000 in
theorem ggX6_cut_X6_isWithin : GoodIn wsX6_cut wsX6_isWithin := goodIn_r _ [5] (by decide +kernel) (by decide +kernel)
set_option maxRecDepth 20000 in
theorem gX6_cut_X6_isWithin : GoodIn wsX6_cut (va_wsS RX6 69 yX6_isWithin wsX6_isWithin) := goodIn_app (goodIn_of _ (by decide +kernel)) ggX6_cut_X6_isWithin
theorem dX6_cut_0 : decode cX6_cut 0 = .ok (.iload_n 1, 1) := by decide +kernel
theorem dX6_cut_1 : decode cX6_cut 1 = .ok (.iconst 0, 1) := by decide +kernel
theorem dX6_cut_2 : decode cX6_cut 2 = .ok (.aload_n 0, 1) := by decide +kernel
theorem dX6_cut_3 : decode cX6_cut 3 = .ok (.getfield 12, 3) := by decide +kernel
theorem dX6_cut_6 : decode cX6_cut 6 = .ok (.getfield 109, 3) := by decide +kernel
theorem dX6_cut_9 : decode cX6_cut 9 = .ok (.invokestatic 69, 3) := by decide +kernel
theorem dX6_cut_12 : decode cX6_cut 12 = .ok (.ifCond .ne 5, 3) := by decide +kernel
theorem dX6_cut_15 : decode cX6_cut 15 = .ok (.iconst (-1), 1) := by decide +kernel
theorem dX6_cut_16 : decode cX6_cut 16 = .ok (.ireturn, 1) := by decide +kernel
theorem dX6_cut_17 : decode cX6_cut 17 = .ok (.aload_n 0, 1) := by decide +kernel
theorem dX6_cut_18 : decode cX6_cut 18 = .ok (.getfield 12, 3) := by decide +kernel
theorem dX6_cut_21 : decode cX6_cut 21 = .ok (.getfield 109, 3) := by decide +kernel
theorem dX6_cut_24 : decode cX6_cut 24 = .ok (.istore_n 2, 1) := by decide +kernel
theorem dX6_cut_25 : decode cX6_cut 25 = .ok (.aload_n 0, 1) := by decide +kernel
theorem dX6_cut_26 : decode cX6_cut 26 = .ok (.getfield 12, 3) := by decide +kernel
theorem dX6_cut_29 : decode cX6_cut 29 = .ok (.iload_n 1, 1) := by decide +kernel
theorem dX6_cut_30 : decode cX6_cut 30 = .ok (.putfield 109, 3) := by decide +kernel
theorem dX6_cut_33 : decode cX6_cut 33 = .ok (.iload_n 2, 1) := by decide +kernel
theorem dX6_cut_34 : decode cX6_cut 34 = .ok (.ireturn, 1) := by decide +kernel
set_option maxRecDepth 20000 in
theorem ggX6_buy_X0_isTrade : GoodIn wsX6_buy wsX0_isTrade := goodIn_r _ [5, 6, 7, 8, 9, 10, 11, 12, 13, 14, 3, 15, 16, 49, 50, 51, 52, 53, 54, 55, 56, 57, 58, 59, 60, 61] (by decide +kernel) (by decide +kernel)
set_option maxRecDepth 20000 in
theorem gX6_buy_X0_isTrade_n174 : GoodIn wsX6_buy (wsX0_isTrade) := ggX6_buy_X0_isTrade
set_option maxRecDepth 20000 in
theorem ggX6_buy_X0_canTrade : GoodIn wsX6_buy wsX0_canTrade := goodIn_r _ [19, 20, 21, 22, 23, 24, 3, 25, 26, 27, 28, 29, 30, 49, 50, 51, 52, 53, 54, 55, 56, 57, 58, 59, 60, 61] (by decide +kernel) (by decide +kernel)
set_option maxRecDepth 20000 in
theorem gX6_buy_X0_canTrade_n181 : GoodIn wsX6_buy (wsX0_canTrade) := ggX6_buy_X0_canTrade
set_option maxRecDepth 20000 in
theorem ggX6_buy_X0_exchange : GoodIn wsX6_buy wsX0_exchange := goodIn_r _ [33, 21, 20, 34, 35, 36, 3, 37, 30, 49, 50, 51, 52, 53, 54, 55, 56, 57, 58, 59, 60, 61] (by decide +kernel) (by decide +kernel)
set_option maxRecDepth 20000 in
theorem gX6_buy_X0_exchange_n184 : GoodIn wsX6_buy (wsX0_exchange) := ggX6_buy_X0_exchange
theorem dX6_buy_0 : decode cX6_buy 0 = .ok (.aload_n 0, 1) := by decide +kernel
theorem dX6_buy_1 : decode cX6_buy 1 = .ok (.getfield 12, 3) := by decide +kernel
theorem dX6_buy_4 : decode cX6_buy 4 = .ok (.iload_n 1, 1) := by decide +kernel
theorem dX6_buy_5 : decode cX6_buy 5 = .ok (.iload_n 2, 1) := by decide +kernel
theorem dX6_buy_6 : decode cX6_buy 6 = .ok (.iload_n 3, 1) := by decide +kernel
theorem dX6_buy_7 : decode cX6_buy 7 = .ok (.iload 4, 2) := by decide +kernel
theorem dX6_buy_9 : decode cX6_buy 9 = .ok (.invokevirtual 174, 3) := by decide +kernel
theorem dX6_buy_12 : decode cX6_buy 12 = .ok (.ifCond .ne 5, 3) := by decide +kernel
theorem dX6_buy_15 : decode cX6_buy 15 = .ok (.iconst (-1), 1) := by decide +kernel
theorem dX6_buy_16 : decode cX6_buy 16 = .ok (.ireturn, 1) := by decide +kernel
theorem dX6_buy_17 : decode cX6_buy 17 = .ok (.aload_n 0, 1) := by decide +kernel
theorem dX6_buy_18 : decode cX6_buy 18 = .ok (.getfield 12, 3) := by decide +kernel
theorem dX6_buy_21 : decode cX6_buy 21 = .ok (.iload_n 1, 1) := by decide +kernel
theorem dX6_buy_22 : decode cX6_buy 22 = .ok (.iload_n 2, 1) := by decide +kernel
theorem dX6_buy_23 : decode cX6_buy 23 = .ok (.iload_n 3, 1) := by decide +kernel
theorem dX6_buy_24 : decode cX6_buy 24 = .ok (.iload 4, 2) := by decide +kernel
theorem dX6_buy_26 : decode cX6_buy 26 = .ok (.invokevirtual 181, 3) := by decide +kernel
theorem dX6_buy_29 : decode cX6_buy 29 = .ok (.ifCond .ne 6, 3) := by decide +kernel
theorem dX6_buy_32 : decode cX6_buy 32 = .ok (.bipush (-2), 2) := by decide +kernel
theorem dX6_buy_34 : decode cX6_buy 34 = .ok (.ireturn, 1) := by decide +kernel
theorem dX6_buy_35 : decode cX6_buy 35 = .ok (.aload_n 0, 1) := by decide +kernel
theorem dX6_buy_36 : decode cX6_buy 36 = .ok (.getfield 12, 3) := by decide +kernel
theorem dX6_buy_39 : decode cX6_buy 39 = .ok (.iload_n 1, 1) := by decide +kernel
theorem dX6_buy_40 : decode cX6_buy 40 = .ok (.iload_n 2, 1) := by decide +kernel
theorem dX6_buy_41 : decode cX6_buy 41 = .ok (.iload_n 3, 1) := by decide +kernel
theorem dX6_buy_42 : decode cX6_buy 42 = .ok (.iload 4, 2) := by decide +kernel
theorem dX6_buy_44 : decode cX6_buy 44 = .ok (.invokevirtual 184, 3) := by decide +kernel
theorem dX6_buy_47 : decode cX6_buy 47 = .ok (.aload_n 0, 1) := by decide +kernel
theorem dX6_buy_48 : decode cX6_buy 48 = .ok (.getfield 12, 3) := by decide +kernel
theorem dX6_buy_51 : decode cX6_buy 51 = .ok (.getfield 112, 3) := by decide +kernel
theorem dX6_buy_54 : decode cX6_buy 54 = .ok (.iload_n 1, 1) := by decide +kernel
theorem dX6_buy_55 : decode cX6_buy 55 = .ok (.iaload, 1) := by decide +kernel
theorem dX6_buy_56 : decode cX6_buy 56 = .ok (.ireturn, 1) := by decide +kernel
set_option maxRecDepth 20000 in
theorem ggX6_pluck_X0_isTrade : GoodIn wsX6_pluck wsX0_isTrade := goodIn_r _ [5, 6, 7, 8, 9, 10, 11, 12, 13, 14, 3, 15, 16, 39, 40, 41, 42, 43, 44, 45, 46, 47, 48, 49, 50, 51] (by decide +kernel) (by decide +kernel)
set_option maxRecDepth 20000 in
theorem gX6_pluck_X0_isTrade_n174 : GoodIn wsX6_pluck (wsX0_isTrade) := ggX6_pluck_X0_isTrade
set_option maxRecDepth 20000 in
theorem ggX6_pluck_X0_canPluck : GoodIn wsX6_pluck wsX0_canPluck := goodIn_r _ [19, 20, 21, 22, 3, 23, 24, 39, 40, 41, 42, 43, 44, 45, 46, 47, 48, 49, 50, 51] (by decide +kernel) (by decide +kernel)
set_option maxRecDepth 20000 in
theorem gX6_pluck_X0_canPluck_n188 : GoodIn wsX6_pluck (wsX0_canPluck) := ggX6_pluck_X0_canPluck
set_option maxRecDepth 20000 in
theorem ggX6_pluck_X0_moveFeathers : GoodIn wsX6_pluck wsX0_moveFeathers := goodIn_r _ [27, 24, 39, 40, 41, 42, 43, 44, 45, 46, 47, 48, 49, 50, 51] (by decide +kernel) (by decide +kernel)
set_option maxRecDepth 20000 in
theorem gX6_pluck_X0_moveFeathers_n191 : GoodIn wsX6_pluck (wsX0_moveFeathers) := ggX6_pluck_X0_moveFeathers
set_option maxRecDepth 20000 in
theorem ggX6_pluck_X0_held : GoodIn wsX6_pluck wsX0_held := goodIn_r _ [23, 24, 39, 40, 41, 42, 43, 44, 45, 46, 47, 48, 49, 50, 51] (by decide +kernel) (by decide +kernel)
set_option maxRecDepth 20000 in
theorem gX6_pluck_X0_held_n152 : GoodIn wsX6_pluck (wsX0_held) := ggX6_pluck_X0_held
theorem dX6_pluck_0 : decode cX6_pluck 0 = .ok (.aload_n 0, 1) := by decide +kernel
theorem dX6_pluck_1 : decode cX6_pluck 1 = .ok (.getfield 12, 3) := by decide +kernel
theorem dX6_pluck_4 : decode cX6_pluck 4 = .ok (.iload_n 1, 1) := by decide +kernel
theorem dX6_pluck_5 : decode cX6_pluck 5 = .ok (.iload_n 2, 1) := by decide +kernel
theorem dX6_pluck_6 : decode cX6_pluck 6 = .ok (.iload_n 3, 1) := by decide +kernel
theorem dX6_pluck_7 : decode cX6_pluck 7 = .ok (.iload 4, 2) := by decide +kernel
theorem dX6_pluck_9 : decode cX6_pluck 9 = .ok (.invokevirtual 174, 3) := by decide +kernel
theorem dX6_pluck_12 : decode cX6_pluck 12 = .ok (.ifCond .ne 5, 3) := by decide +kernel
theorem dX6_pluck_15 : decode cX6_pluck 15 = .ok (.iconst (-1), 1) := by decide +kernel
theorem dX6_pluck_16 : decode cX6_pluck 16 = .ok (.ireturn, 1) := by decide +kernel
theorem dX6_pluck_17 : decode cX6_pluck 17 = .ok (.aload_n 0, 1) := by decide +kernel
theorem dX6_pluck_18 : decode cX6_pluck 18 = .ok (.getfield 12, 3) := by decide +kernel
theorem dX6_pluck_21 : decode cX6_pluck 21 = .ok (.iload_n 1, 1) := by decide +kernel
theorem dX6_pluck_22 : decode cX6_pluck 22 = .ok (.iload_n 2, 1) := by decide +kernel
theorem dX6_pluck_23 : decode cX6_pluck 23 = .ok (.iload_n 3, 1) := by decide +kernel
theorem dX6_pluck_24 : decode cX6_pluck 24 = .ok (.iload 4, 2) := by decide +kernel
theorem dX6_pluck_26 : decode cX6_pluck 26 = .ok (.invokevirtual 188, 3) := by decide +kernel
theorem dX6_pluck_29 : decode cX6_pluck 29 = .ok (.ifCond .ne 6, 3) := by decide +kernel
theorem dX6_pluck_32 : decode cX6_pluck 32 = .ok (.bipush (-2), 2) := by decide +kernel
theorem dX6_pluck_34 : decode cX6_pluck 34 = .ok (.ireturn, 1) := by decide +kernel
theorem dX6_pluck_35 : decode cX6_pluck 35 = .ok (.aload_n 0, 1) := by decide +kernel
theorem dX6_pluck_36 : decode cX6_pluck 36 = .ok (.getfield 12, 3) := by decide +kernel
theorem dX6_pluck_39 : decode cX6_pluck 39 = .ok (.iload_n 1, 1) := by decide +kernel
theorem dX6_pluck_40 : decode cX6_pluck 40 = .ok (.iload_n 2, 1) := by decide +kernel
theorem dX6_pluck_41 : decode cX6_pluck 41 = .ok (.iload_n 3, 1) := by decide +kernel
theorem dX6_pluck_42 : decode cX6_pluck 42 = .ok (.iload 4, 2) := by decide +kernel
theorem dX6_pluck_44 : decode cX6_pluck 44 = .ok (.invokevirtual 191, 3) := by decide +kernel
theorem dX6_pluck_47 : decode cX6_pluck 47 = .ok (.aload_n 0, 1) := by decide +kernel
theorem dX6_pluck_48 : decode cX6_pluck 48 = .ok (.getfield 12, 3) := by decide +kernel
theorem dX6_pluck_51 : decode cX6_pluck 51 = .ok (.iload_n 3, 1) := by decide +kernel
theorem dX6_pluck_52 : decode cX6_pluck 52 = .ok (.iload_n 1, 1) := by decide +kernel
theorem dX6_pluck_53 : decode cX6_pluck 53 = .ok (.invokevirtual 152, 3) := by decide +kernel
theorem dX6_pluck_56 : decode cX6_pluck 56 = .ok (.ireturn, 1) := by decide +kernel
set_option maxRecDepth 20000 in
theorem ggX6_weeks_X6_isWithin : GoodIn wsX6_weeks wsX6_isWithin := goodIn_r _ [5] (by decide +kernel) (by decide +kernel)
set_option maxRecDepth 20000 in
theorem gX6_weeks_X6_isWithin : GoodIn wsX6_weeks (va_wsS RX6 69 yX6_isWithin wsX6_isWithin) := goodIn_app (goodIn_of _ (by decide +kernel)) ggX6_weeks_X6_isWithin
set_option maxRecDepth 20000 in
theorem ggX6_weeks_X0_passWeeks : GoodIn wsX6_weeks wsX0_passWeeks := goodIn_r _ [9, 10, 11, 12, 7, 13, 14, 15, 16, 17, 18, 19, 20, 21, 22, 23, 24, 25, 26, 27, 28, 29, 30, 31, 32, 33, 34, 35, 36, 37, 38, 39, 40, 41, 53, 54, 55, 56, 57, 58, 59, 60, 61, 62, 63, 64, 65] (by decide +kernel) (by decide +kernel)
set_option maxRecDepth 20000 in
theorem gX6_weeks_X0_passWeeks_n194 : GoodIn wsX6_weeks (wsX0_passWeeks) := ggX6_weeks_X0_passWeeks
theorem dX6_weeks_0 : decode cX6_weeks 0 = .ok (.iload_n 1, 1) := by decide +kernel
theorem dX6_weeks_1 : decode cX6_weeks 1 = .ok (.iconst 0, 1) := by decide +kernel
theorem dX6_weeks_2 : decode cX6_weeks 2 = .ok (.bipush 30, 2) := by decide +kernel
theorem dX6_weeks_4 : decode cX6_weeks 4 = .ok (.invokestatic 69, 3) := by decide +kernel
theorem dX6_weeks_7 : decode cX6_weeks 7 = .ok (.ifCond .ne 5, 3) := by decide +kernel
theorem dX6_weeks_10 : decode cX6_weeks 10 = .ok (.iconst (-1), 1) := by decide +kernel
theorem dX6_weeks_11 : decode cX6_weeks 11 = .ok (.ireturn, 1) := by decide +kernel
theorem dX6_weeks_12 : decode cX6_weeks 12 = .ok (.aload_n 0, 1) := by decide +kernel
theorem dX6_weeks_13 : decode cX6_weeks 13 = .ok (.getfield 12, 3) := by decide +kernel
theorem dX6_weeks_16 : decode cX6_weeks 16 = .ok (.getfield 106, 3) := by decide +kernel
theorem dX6_weeks_19 : decode cX6_weeks 19 = .ok (.iload_n 1, 1) := by decide +kernel
theorem dX6_weeks_20 : decode cX6_weeks 20 = .ok (.iadd, 1) := by decide +kernel
theorem dX6_weeks_21 : decode cX6_weeks 21 = .ok (.sipush 999, 3) := by decide +kernel
theorem dX6_weeks_24 : decode cX6_weeks 24 = .ok (.if_icmp .le 6, 3) := by decide +kernel
theorem dX6_weeks_27 : decode cX6_weeks 27 = .ok (.bipush (-3), 2) := by decide +kernel
theorem dX6_weeks_29 : decode cX6_weeks 29 = .ok (.ireturn, 1) := by decide +kernel
theorem dX6_weeks_30 : decode cX6_weeks 30 = .ok (.aload_n 0, 1) := by decide +kernel
theorem dX6_weeks_31 : decode cX6_weeks 31 = .ok (.getfield 12, 3) := by decide +kernel
theorem dX6_weeks_34 : decode cX6_weeks 34 = .ok (.iload_n 1, 1) := by decide +kernel
theorem dX6_weeks_35 : decode cX6_weeks 35 = .ok (.invokevirtual 194, 3) := by decide +kernel
theorem dX6_weeks_38 : decode cX6_weeks 38 = .ok (.ireturn, 1) := by decide +kernel
set_option maxRecDepth 20000 in
theorem ggX6_runs_X6_isWithin : GoodIn wsX6_runs wsX6_isWithin := goodIn_r _ [6] (by decide +kernel) (by decide +kernel)
set_option maxRecDepth 20000 in
theorem gX6_runs_X6_isWithin : GoodIn wsX6_runs (va_wsS RX6 69 yX6_isWithin wsX6_isWithin) := goodIn_app (goodIn_of _ (by decide +kernel)) ggX6_runs_X6_isWithin
set_option maxRecDepth 20000 in
theorem ggX6_runs_X0_copyFrom : GoodIn wsX6_runs wsX0_copyFrom := goodIn_r _ [10, 11, 12, 13, 14, 15, 16, 17, 18, 19, 20, 21, 22, 23, 24, 25, 26, 27, 79, 80, 81, 82, 83, 84, 85, 86, 87, 88, 89, 90, 91] (by decide +kernel) (by decide +kernel)
set_option maxRecDepth 20000 in
theorem gX6_runs_X0_copyFrom_n93 : GoodIn wsX6_runs (wsX0_copyFrom) := ggX6_runs_X0_copyFrom
set_option maxRecDepth 20000 in
theorem ggX6_runs_X0_tryPlanned : GoodIn wsX6_runs wsX0_tryPlanned := goodIn_r _ [30, 24, 25, 26, 27, 31, 32, 33, 8, 34, 35, 36, 37, 38, 39, 5, 40, 3, 4, 6, 41, 42, 43, 44, 11, 45, 46, 47, 48, 20, 22, 49, 50, 51, 52, 53, 54, 55, 56, 21, 57, 58, 59, 60, 61, 62, 63, 64, 79, 80, 81, 82, 83, 84, 85, 86, 87, 88, 89, 90, 91] (by decide +kernel) (by decide +kernel)
set_option maxRecDepth 20000 in
theorem gX6_runs_X0_tryPlanned_n197 : GoodIn wsX6_runs (wsX0_tryPlanned) := ggX6_runs_X0_tryPlanned
set_option maxRecDepth 20000 in
theorem ggX6_runs_X0_costOfPlanned : GoodIn wsX6_runs wsX0_costOfPlanned := goodIn_r _ [67, 27, 20, 26, 79, 80, 81, 82, 83, 84, 85, 86, 87, 88, 89, 90, 91] (by decide +kernel) (by decide +kernel)
set_option maxRecDepth 20000 in
theorem gX6_runs_X0_costOfPlanned_n200 : GoodIn wsX6_runs (wsX0_costOfPlanned) := ggX6_runs_X0_costOfPlanned
theorem dX6_runs_0 : decode cX6_runs 0 = .ok (.iload_n 1, 1) := by decide +kernel
theorem dX6_runs_1 : decode cX6_runs 1 = .ok (.iconst 0, 1) := by decide +kernel
theorem dX6_runs_2 : decode cX6_runs 2 = .ok (.iconst 2, 1) := by decide +kernel
theorem dX6_runs_3 : decode cX6_runs 3 = .ok (.invokestatic 69, 3) := by decide +kernel
theorem dX6_runs_6 : decode cX6_runs 6 = .ok (.ifCond .ne 5, 3) := by decide +kernel
theorem dX6_runs_9 : decode cX6_runs 9 = .ok (.iconst (-1), 1) := by decide +kernel
theorem dX6_runs_10 : decode cX6_runs 10 = .ok (.ireturn, 1) := by decide +kernel
theorem dX6_runs_11 : decode cX6_runs 11 = .ok (.aload_n 0, 1) := by decide +kernel
theorem dX6_runs_12 : decode cX6_runs 12 = .ok (.getfield 16, 3) := by decide +kernel
theorem dX6_runs_15 : decode cX6_runs 15 = .ok (.aload_n 0, 1) := by decide +kernel
theorem dX6_runs_16 : decode cX6_runs 16 = .ok (.getfield 12, 3) := by decide +kernel
theorem dX6_runs_19 : decode cX6_runs 19 = .ok (.invokevirtual 93, 3) := by decide +kernel
theorem dX6_runs_22 : decode cX6_runs 22 = .ok (.iconst 0, 1) := by decide +kernel
theorem dX6_runs_23 : decode cX6_runs 23 = .ok (.istore_n 2, 1) := by decide +kernel
theorem dX6_runs_24 : decode cX6_runs 24 = .ok (.bipush (-4), 2) := by decide +kernel
theorem dX6_runs_26 : decode cX6_runs 26 = .ok (.istore_n 3, 1) := by decide +kernel
theorem dX6_runs_27 : decode cX6_runs 27 = .ok (.iconst 0, 1) := by decide +kernel
theorem dX6_runs_28 : decode cX6_runs 28 = .ok (.istore 4, 2) := by decide +kernel
theorem dX6_runs_30 : decode cX6_runs 30 = .ok (.iconst 0, 1) := by decide +kernel
theorem dX6_runs_31 : decode cX6_runs 31 = .ok (.istore 5, 2) := by decide +kernel
theorem dX6_runs_33 : decode cX6_runs 33 = .ok (.iload 5, 2) := by decide +kernel
theorem dX6_runs_35 : decode cX6_runs 35 = .ok (.aload_n 0, 1) := by decide +kernel
theorem dX6_runs_36 : decode cX6_runs 36 = .ok (.getfield 16, 3) := by decide +kernel
theorem dX6_runs_39 : decode cX6_runs 39 = .ok (.getfield 109, 3) := by decide +kernel
theorem dX6_runs_42 : decode cX6_runs 42 = .ok (.if_icmp .ge 50, 3) := by decide +kernel
theorem dX6_runs_45 : decode cX6_runs 45 = .ok (.aload_n 0, 1) := by decide +kernel
theorem dX6_runs_46 : decode cX6_runs 46 = .ok (.getfield 16, 3) := by decide +kernel
theorem dX6_runs_49 : decode cX6_runs 49 = .ok (.iload 5, 2) := by decide +kernel
theorem dX6_runs_51 : decode cX6_runs 51 = .ok (.invokevirtual 197, 3) := by decide +kernel
theorem dX6_runs_54 : decode cX6_runs 54 = .ok (.ifCond .eq 23, 3) := by decide +kernel
theorem dX6_runs_57 : decode cX6_runs 57 = .ok (.iinc 2 1, 3) := by decide +kernel
theorem dX6_runs_60 : decode cX6_runs 60 = .ok (.iload 4, 2) := by decide +kernel
theorem dX6_runs_62 : decode cX6_runs 62 = .ok (.aload_n 0, 1) := by decide +kernel
theorem dX6_runs_63 : decode cX6_runs 63 = .ok (.getfield 16, 3) := by decide +kernel
theorem dX6_runs_66 : decode cX6_runs 66 = .ok (.iload 5, 2) := by decide +kernel
theorem dX6_runs_68 : decode cX6_runs 68 = .ok (.invokevirtual 200, 3) := by decide +kernel
theorem dX6_runs_71 : decode cX6_runs 71 = .ok (.iadd, 1) := by decide +kernel
theorem dX6_runs_72 : decode cX6_runs 72 = .ok (.istore 4, 2) := by decide +kernel
theorem dX6_runs_74 : decode cX6_runs 74 = .ok (.goto 12, 3) := by decide +kernel
theorem dX6_runs_77 : decode cX6_runs 77 = .ok (.iload_n 3, 1) := by decide +kernel
theorem dX6_runs_78 : decode cX6_runs 78 = .ok (.bipush (-4), 2) := by decide +kernel
theorem dX6_runs_80 : decode cX6_runs 80 = .ok (.if_icmp .ne 6, 3) := by decide +kernel
theorem dX6_runs_83 : decode cX6_runs 83 = .ok (.iload 5, 2) := by decide +kernel
theorem dX6_runs_85 : decode cX6_runs 85 = .ok (.istore_n 3, 1) := by decide +kernel
theorem dX6_runs_86 : decode cX6_runs 86 = .ok (.iinc 5 1, 3) := by decide +kernel
theorem dX6_runs_89 : decode cX6_runs 89 = .ok (.goto (-56), 3) := by decide +kernel
theorem dX6_runs_92 : decode cX6_runs 92 = .ok (.iload_n 1, 1) := by decide +kernel
theorem dX6_runs_93 : decode cX6_runs 93 = .ok (.ifCond .ne 7, 3) := by decide +kernel
theorem dX6_runs_96 : decode cX6_runs 96 = .ok (.iload_n 2, 1) := by decide +kernel
theorem dX6_runs_97 : decode cX6_runs 97 = .ok (.goto 14, 3) := by decide +kernel
theorem dX6_runs_100 : decode cX6_runs 100 = .ok (.iload_n 1, 1) := by decide +kernel
theorem dX6_runs_101 : decode cX6_runs 101 = .ok (.iconst 1, 1) := by decide +kernel
theorem dX6_runs_102 : decode cX6_runs 102 = .ok (.if_icmp .ne 7, 3) := by decide +kernel
theorem dX6_runs_105 : decode cX6_runs 105 = .ok (.iload_n 3, 1) := by decide +kernel
theorem dX6_runs_106 : decode cX6_runs 106 = .ok (.goto 5, 3) := by decide +kernel
theorem dX6_runs_109 : decode cX6_runs 109 = .ok (.iload 4, 2) := by decide +kernel
theorem dX6_runs_111 : decode cX6_runs 111 = .ok (.ireturn, 1) := by decide +kernel
set_option maxRecDepth 20000 in
theorem ggX6_ahead_X6_isOwner : GoodIn wsX6_ahead wsX6_isOwner := goodIn_r _ [6, 7, 8, 5, 9] (by decide +kernel) (by decide +kernel)
set_option maxRecDepth 20000 in
theorem gX6_ahead_X6_isOwner : GoodIn wsX6_ahead (va_wsS RX6 145 yX6_isOwner wsX6_isOwner) := goodIn_app (goodIn_of _ (by decide +kernel)) ggX6_ahead_X6_isOwner
set_option maxRecDepth 20000 in
theorem ggX6_ahead_X0_copyFrom : GoodIn wsX6_ahead wsX0_copyFrom := goodIn_r _ [13, 14, 15, 16, 17, 18, 19, 20, 21, 22, 23, 24, 25, 26, 27, 28, 29, 30, 96, 97, 98, 99, 100, 101, 102, 103, 104, 105, 106, 107, 108] (by decide +kernel) (by decide +kernel)
set_option maxRecDepth 20000 in
theorem gX6_ahead_X0_copyFrom_n93 : GoodIn wsX6_ahead (wsX0_copyFrom) := ggX6_ahead_X0_copyFrom
set_option maxRecDepth 20000 in
theorem ggX6_ahead_X0_followPlanWithout : GoodIn wsX6_ahead wsX0_followPlanWithout := goodIn_r _ [33, 16, 34, 35, 36, 11, 37, 27, 28, 29, 30, 38, 39, 40, 41, 42, 43, 44, 45, 4, 5, 6, 7, 8, 9, 46, 47, 48, 49, 14, 50, 51, 52, 53, 23, 25, 54, 55, 56, 57, 58, 59, 60, 61, 24, 62, 63, 64, 65, 66, 67, 68, 69, 96, 97, 98, 99, 100, 101, 102, 103, 104, 105, 106, 107, 108] (by decide +kernel) (by decide +kernel)
set_option maxRecDepth 20000 in
theorem gX6_ahead_X0_followPlanWithout_n203 : GoodIn wsX6_ahead (wsX0_followPlanWithout) := ggX6_ahead_X0_followPlanWithout
set_option maxRecDepth 20000 in
theorem ggX6_ahead_X0_ofOwner : GoodIn wsX6_ahead wsX0_ofOwner := goodIn_r _ [72, 25, 26, 73, 74, 75, 11, 76, 14, 23, 58, 59, 60, 61, 24, 77, 78, 79, 80, 81, 82, 83, 84, 22, 96, 97, 98, 99, 100, 101, 102, 103, 104, 105, 106, 107, 108] (by decide +kernel) (by decide +kernel)
set_option maxRecDepth 20000 in
theorem gX6_ahead_X0_ofOwner_n148 : GoodIn wsX6_ahead (wsX0_ofOwner) := ggX6_ahead_X0_ofOwner
theorem dX6_ahead_0 : decode cX6_ahead 0 = .ok (.iload_n 1, 1) := by decide +kernel
theorem dX6_ahead_1 : decode cX6_ahead 1 = .ok (.invokestatic 145, 3) := by decide +kernel
theorem dX6_ahead_4 : decode cX6_ahead 4 = .ok (.ifCond .ne 5, 3) := by decide +kernel
theorem dX6_ahead_7 : decode cX6_ahead 7 = .ok (.iconst (-1), 1) := by decide +kernel
theorem dX6_ahead_8 : decode cX6_ahead 8 = .ok (.ireturn, 1) := by decide +kernel
theorem dX6_ahead_9 : decode cX6_ahead 9 = .ok (.aload_n 0, 1) := by decide +kernel
theorem dX6_ahead_10 : decode cX6_ahead 10 = .ok (.getfield 16, 3) := by decide +kernel
theorem dX6_ahead_13 : decode cX6_ahead 13 = .ok (.aload_n 0, 1) := by decide +kernel
theorem dX6_ahead_14 : decode cX6_ahead 14 = .ok (.getfield 12, 3) := by decide +kernel
theorem dX6_ahead_17 : decode cX6_ahead 17 = .ok (.invokevirtual 93, 3) := by decide +kernel
theorem dX6_ahead_20 : decode cX6_ahead 20 = .ok (.aload_n 0, 1) := by decide +kernel
theorem dX6_ahead_21 : decode cX6_ahead 21 = .ok (.getfield 16, 3) := by decide +kernel
theorem dX6_ahead_24 : decode cX6_ahead 24 = .ok (.bipush (-4), 2) := by decide +kernel
theorem dX6_ahead_26 : decode cX6_ahead 26 = .ok (.invokevirtual 203, 3) := by decide +kernel
theorem dX6_ahead_29 : decode cX6_ahead 29 = .ok (.aload_n 0, 1) := by decide +kernel
theorem dX6_ahead_30 : decode cX6_ahead 30 = .ok (.getfield 16, 3) := by decide +kernel
theorem dX6_ahead_33 : decode cX6_ahead 33 = .ok (.iload_n 1, 1) := by decide +kernel
theorem dX6_ahead_34 : decode cX6_ahead 34 = .ok (.iload_n 2, 1) := by decide +kernel
theorem dX6_ahead_35 : decode cX6_ahead 35 = .ok (.invokevirtual 148, 3) := by decide +kernel
theorem dX6_ahead_38 : decode cX6_ahead 38 = .ok (.ireturn, 1) := by decide +kernel
set_option maxRecDepth 20000 in
theorem ggX6_later_X0_hasGoose : GoodIn wsX6_later wsX0_hasGoose := goodIn_r _ [6, 7, 8, 9, 10, 74, 75, 76, 77, 78, 79, 80, 81, 82, 83, 84, 85, 86] (by decide +kernel) (by decide +kernel)
set_option maxRecDepth 20000 in
theorem gX6_later_X0_hasGoose_n126 : GoodIn wsX6_later (wsX0_hasGoose) := ggX6_later_X0_hasGoose
set_option maxRecDepth 20000 in
theorem ggX6_later_X6_isOwner : GoodIn wsX6_later wsX6_isOwner := goodIn_r _ [13, 14, 8, 9, 10] (by decide +kernel) (by decide +kernel)
set_option maxRecDepth 20000 in
theorem gX6_later_X6_isOwner : GoodIn wsX6_later (va_wsS RX6 145 yX6_isOwner wsX6_isOwner) := goodIn_app (goodIn_of _ (by decide +kernel)) ggX6_later_X6_isOwner
set_option maxRecDepth 20000 in
theorem ggX6_later_X6_isWithin : GoodIn wsX6_later wsX6_isWithin := goodIn_r _ [10] (by decide +kernel) (by decide +kernel)
set_option maxRecDepth 20000 in
theorem gX6_later_X6_isWithin : GoodIn wsX6_later (va_wsS RX6 69 yX6_isWithin wsX6_isWithin) := goodIn_app (goodIn_of _ (by decide +kernel)) ggX6_later_X6_isWithin
set_option maxRecDepth 20000 in
theorem ggX6_later_X0_copyFrom : GoodIn wsX6_later wsX0_copyFrom := goodIn_r _ [17, 7, 18, 19, 20, 21, 22, 23, 24, 25, 26, 27, 28, 29, 30, 31, 32, 33, 74, 75, 76, 77, 78, 79, 80, 81, 82, 83, 84, 85, 86] (by decide +kernel) (by decide +kernel)
set_option maxRecDepth 20000 in
theorem gX6_later_X0_copyFrom_n93 : GoodIn wsX6_later (wsX0_copyFrom) := ggX6_later_X0_copyFrom
set_option maxRecDepth 20000 in
theorem ggX6_later_X0_passWeeks : GoodIn wsX6_later wsX0_passWeeks := goodIn_r _ [36, 37, 38, 39, 4, 40, 7, 29, 18, 41, 42, 43, 44, 25, 45, 46, 47, 48, 27, 49, 50, 51, 52, 20, 53, 54, 55, 56, 57, 58, 59, 60, 61, 62, 74, 75, 76, 77, 78, 79, 80, 81, 82, 83, 84, 85, 86] (by decide +kernel) (by decide +kernel)
set_option maxRecDepth 20000 in
theorem gX6_later_X0_passWeeks_n194 : GoodIn wsX6_later (wsX0_passWeeks) := ggX6_later_X0_passWeeks
set_option maxRecDepth 20000 in
theorem ggX6_later_X0_held : GoodIn wsX6_later wsX0_held := goodIn_r _ [48, 27, 74, 75, 76, 77, 78, 79, 80, 81, 82, 83, 84, 85, 86] (by decide +kernel) (by decide +kernel)
set_option maxRecDepth 20000 in
theorem gX6_later_X0_held_n152 : GoodIn wsX6_later (wsX0_held) := ggX6_later_X0_held
theorem dX6_later_0 : decode cX6_later 0 = .ok (.aload_n 0, 1) := by decide +kernel
theorem dX6_later_1 : decode cX6_later 1 = .ok (.getfield 12, 3) := by decide +kernel
theorem dX6_later_4 : decode cX6_later 4 = .ok (.iload_n 1, 1) := by decide +kernel
theorem dX6_later_5 : decode cX6_later 5 = .ok (.invokevirtual 126, 3) := by decide +kernel
theorem dX6_later_8 : decode cX6_later 8 = .ok (.ifCond .eq 20, 3) := by decide +kernel
theorem dX6_later_11 : decode cX6_later 11 = .ok (.iload_n 2, 1) := by decide +kernel
theorem dX6_later_12 : decode cX6_later 12 = .ok (.invokestatic 145, 3) := by decide +kernel
theorem dX6_later_15 : decode cX6_later 15 = .ok (.ifCond .eq 13, 3) := by decide +kernel
theorem dX6_later_18 : decode cX6_later 18 = .ok (.iload_n 3, 1) := by decide +kernel
theorem dX6_later_19 : decode cX6_later 19 = .ok (.iconst 0, 1) := by decide +kernel
theorem dX6_later_20 : decode cX6_later 20 = .ok (.bipush 60, 2) := by decide +kernel
theorem dX6_later_22 : decode cX6_later 22 = .ok (.invokestatic 69, 3) := by decide +kernel
theorem dX6_later_25 : decode cX6_later 25 = .ok (.ifCond .ne 5, 3) := by decide +kernel
theorem dX6_later_28 : decode cX6_later 28 = .ok (.iconst (-1), 1) := by decide +kernel
theorem dX6_later_29 : decode cX6_later 29 = .ok (.ireturn, 1) := by decide +kernel
theorem dX6_later_30 : decode cX6_later 30 = .ok (.aload_n 0, 1) := by decide +kernel
theorem dX6_later_31 : decode cX6_later 31 = .ok (.getfield 16, 3) := by decide +kernel
theorem dX6_later_34 : decode cX6_later 34 = .ok (.aload_n 0, 1) := by decide +kernel
theorem dX6_later_35 : decode cX6_later 35 = .ok (.getfield 12, 3) := by decide +kernel
theorem dX6_later_38 : decode cX6_later 38 = .ok (.invokevirtual 93, 3) := by decide +kernel
theorem dX6_later_41 : decode cX6_later 41 = .ok (.aload_n 0, 1) := by decide +kernel
theorem dX6_later_42 : decode cX6_later 42 = .ok (.getfield 16, 3) := by decide +kernel
theorem dX6_later_45 : decode cX6_later 45 = .ok (.iload_n 3, 1) := by decide +kernel
theorem dX6_later_46 : decode cX6_later 46 = .ok (.invokevirtual 194, 3) := by decide +kernel
theorem dX6_later_49 : decode cX6_later 49 = .ok (.pop, 1) := by decide +kernel
theorem dX6_later_50 : decode cX6_later 50 = .ok (.aload_n 0, 1) := by decide +kernel
theorem dX6_later_51 : decode cX6_later 51 = .ok (.getfield 16, 3) := by decide +kernel
theorem dX6_later_54 : decode cX6_later 54 = .ok (.iload_n 1, 1) := by decide +kernel
theorem dX6_later_55 : decode cX6_later 55 = .ok (.iload_n 2, 1) := by decide +kernel
theorem dX6_later_56 : decode cX6_later 56 = .ok (.invokevirtual 152, 3) := by decide +kernel
theorem dX6_later_59 : decode cX6_later 59 = .ok (.ireturn, 1) := by decide +kernel
set_option maxRecDepth 20000 in
theorem ggX6_eggs_X6_isOwner : GoodIn wsX6_eggs wsX6_isOwner := goodIn_r _ [6, 7, 8, 5, 9] (by decide +kernel) (by decide +kernel)
set_option maxRecDepth 20000 in
theorem gX6_eggs_X6_isOwner : GoodIn wsX6_eggs (va_wsS RX6 145 yX6_isOwner wsX6_isOwner) := goodIn_app (goodIn_of _ (by decide +kernel)) ggX6_eggs_X6_isOwner
set_option maxRecDepth 20000 in
theorem ggX6_eggs_X6_isWithin : GoodIn wsX6_eggs wsX6_isWithin := goodIn_r _ [9] (by decide +kernel) (by decide +kernel)
set_option maxRecDepth 20000 in
theorem gX6_eggs_X6_isWithin : GoodIn wsX6_eggs (va_wsS RX6 69 yX6_isWithin wsX6_isWithin) := goodIn_app (goodIn_of _ (by decide +kernel)) ggX6_eggs_X6_isWithin
set_option maxRecDepth 20000 in
theorem ggX6_eggs_X0_copyFrom : GoodIn wsX6_eggs wsX0_copyFrom := goodIn_r _ [13, 14, 15, 16, 17, 18, 19, 20, 21, 22, 23, 24, 25, 26, 27, 28, 29, 30, 71, 72, 73, 74, 75, 76, 77, 78, 79, 80, 81, 82, 83] (by decide +kernel) (by decide +kernel)
set_option maxRecDepth 20000 in
theorem gX6_eggs_X0_copyFrom_n93 : GoodIn wsX6_eggs (wsX0_copyFrom) := ggX6_eggs_X0_copyFrom
set_option maxRecDepth 20000 in
theorem ggX6_eggs_X0_passWeeks : GoodIn wsX6_eggs wsX0_passWeeks := goodIn_r _ [33, 34, 35, 36, 11, 37, 14, 26, 15, 38, 39, 40, 41, 22, 42, 43, 44, 45, 24, 46, 47, 48, 49, 17, 50, 51, 52, 53, 54, 55, 56, 57, 58, 59, 71, 72, 73, 74, 75, 76, 77, 78, 79, 80, 81, 82, 83] (by decide +kernel) (by decide +kernel)
set_option maxRecDepth 20000 in
theorem gX6_eggs_X0_passWeeks_n194 : GoodIn wsX6_eggs (wsX0_passWeeks) := ggX6_eggs_X0_passWeeks
theorem dX6_eggs_0 : decode cX6_eggs 0 = .ok (.iload_n 1, 1) := by decide +kernel
theorem dX6_eggs_1 : decode cX6_eggs 1 = .ok (.invokestatic 145, 3) := by decide +kernel
theorem dX6_eggs_4 : decode cX6_eggs 4 = .ok (.ifCond .eq 13, 3) := by decide +kernel
theorem dX6_eggs_7 : decode cX6_eggs 7 = .ok (.iload_n 2, 1) := by decide +kernel
theorem dX6_eggs_8 : decode cX6_eggs 8 = .ok (.iconst 0, 1) := by decide +kernel
theorem dX6_eggs_9 : decode cX6_eggs 9 = .ok (.bipush 60, 2) := by decide +kernel
theorem dX6_eggs_11 : decode cX6_eggs 11 = .ok (.invokestatic 69, 3) := by decide +kernel
theorem dX6_eggs_14 : decode cX6_eggs 14 = .ok (.ifCond .ne 5, 3) := by decide +kernel
theorem dX6_eggs_17 : decode cX6_eggs 17 = .ok (.iconst (-1), 1) := by decide +kernel
theorem dX6_eggs_18 : decode cX6_eggs 18 = .ok (.ireturn, 1) := by decide +kernel
theorem dX6_eggs_19 : decode cX6_eggs 19 = .ok (.aload_n 0, 1) := by decide +kernel
theorem dX6_eggs_20 : decode cX6_eggs 20 = .ok (.getfield 16, 3) := by decide +kernel
theorem dX6_eggs_23 : decode cX6_eggs 23 = .ok (.aload_n 0, 1) := by decide +kernel
theorem dX6_eggs_24 : decode cX6_eggs 24 = .ok (.getfield 12, 3) := by decide +kernel
theorem dX6_eggs_27 : decode cX6_eggs 27 = .ok (.invokevirtual 93, 3) := by decide +kernel
theorem dX6_eggs_30 : decode cX6_eggs 30 = .ok (.aload_n 0, 1) := by decide +kernel
theorem dX6_eggs_31 : decode cX6_eggs 31 = .ok (.getfield 16, 3) := by decide +kernel
theorem dX6_eggs_34 : decode cX6_eggs 34 = .ok (.iload_n 2, 1) := by decide +kernel
theorem dX6_eggs_35 : decode cX6_eggs 35 = .ok (.invokevirtual 194, 3) := by decide +kernel
theorem dX6_eggs_38 : decode cX6_eggs 38 = .ok (.pop, 1) := by decide +kernel
theorem dX6_eggs_39 : decode cX6_eggs 39 = .ok (.aload_n 0, 1) := by decide +kernel
theorem dX6_eggs_40 : decode cX6_eggs 40 = .ok (.getfield 16, 3) := by decide +kernel
theorem dX6_eggs_43 : decode cX6_eggs 43 = .ok (.getfield 119, 3) := by decide +kernel
theorem dX6_eggs_46 : decode cX6_eggs 46 = .ok (.iload_n 1, 1) := by decide +kernel
theorem dX6_eggs_47 : decode cX6_eggs 47 = .ok (.iaload, 1) := by decide +kernel
theorem dX6_eggs_48 : decode cX6_eggs 48 = .ok (.ireturn, 1) := by decide +kernel
set_option maxRecDepth 20000 in
theorem ggX6_bare_X0_hasGoose : GoodIn wsX6_bare wsX0_hasGoose := goodIn_r _ [6, 7, 8, 9, 10, 70, 71, 72, 73, 74, 75, 76, 77, 78, 79, 80, 81, 82] (by decide +kernel) (by decide +kernel)
set_option maxRecDepth 20000 in
theorem gX6_bare_X0_hasGoose_n126 : GoodIn wsX6_bare (wsX0_hasGoose) := ggX6_bare_X0_hasGoose
set_option maxRecDepth 20000 in
theorem ggX6_bare_X6_isWithin : GoodIn wsX6_bare wsX6_isWithin := goodIn_r _ [10] (by decide +kernel) (by decide +kernel)
set_option maxRecDepth 20000 in
theorem gX6_bare_X6_isWithin : GoodIn wsX6_bare (va_wsS RX6 69 yX6_isWithin wsX6_isWithin) := goodIn_app (goodIn_of _ (by decide +kernel)) ggX6_bare_X6_isWithin
set_option maxRecDepth 20000 in
theorem ggX6_bare_X0_copyFrom : GoodIn wsX6_bare wsX0_copyFrom := goodIn_r _ [14, 7, 15, 16, 17, 18, 19, 20, 21, 22, 23, 24, 25, 26, 27, 28, 29, 30, 70, 71, 72, 73, 74, 75, 76, 77, 78, 79, 80, 81, 82] (by decide +kernel) (by decide +kernel)
set_option maxRecDepth 20000 in
theorem gX6_bare_X0_copyFrom_n93 : GoodIn wsX6_bare (wsX0_copyFrom) := ggX6_bare_X0_copyFrom
set_option maxRecDepth 20000 in
theorem ggX6_bare_X0_feathersOf : GoodIn wsX6_bare wsX0_feathersOf := goodIn_r _ [33, 34, 35, 36, 4, 37, 24, 70, 71, 72, 73, 74, 75, 76, 77, 78, 79, 80, 81, 82] (by decide +kernel) (by decide +kernel)
set_option maxRecDepth 20000 in
theorem gX6_bare_X0_feathersOf_n138 : GoodIn wsX6_bare (wsX0_feathersOf) := ggX6_bare_X0_feathersOf
set_option maxRecDepth 20000 in
theorem ggX6_bare_X0_passWeek : GoodIn wsX6_bare wsX0_passWeek := goodIn_r _ [40, 7, 26, 15, 41, 42, 43, 4, 44, 22, 34, 35, 36, 37, 24, 45, 46, 47, 48, 17, 49, 50, 51, 52, 53, 54, 55, 56, 57, 58, 70, 71, 72, 73, 74, 75, 76, 77, 78, 79, 80, 81, 82] (by decide +kernel) (by decide +kernel)
set_option maxRecDepth 20000 in
theorem gX6_bare_X0_passWeek_n207 : GoodIn wsX6_bare (wsX0_passWeek) := ggX6_bare_X0_passWeek
theorem dX6_bare_0 : decode cX6_bare 0 = .ok (.aload_n 0, 1) := by decide +kernel
theorem dX6_bare_1 : decode cX6_bare 1 = .ok (.getfield 12, 3) := by decide +kernel
theorem dX6_bare_4 : decode cX6_bare 4 = .ok (.iload_n 1, 1) := by decide +kernel
theorem dX6_bare_5 : decode cX6_bare 5 = .ok (.invokevirtual 126, 3) := by decide +kernel
theorem dX6_bare_8 : decode cX6_bare 8 = .ok (.ifCond .eq 14, 3) := by decide +kernel
theorem dX6_bare_11 : decode cX6_bare 11 = .ok (.iload_n 2, 1) := by decide +kernel
theorem dX6_bare_12 : decode cX6_bare 12 = .ok (.iconst 0, 1) := by decide +kernel
theorem dX6_bare_13 : decode cX6_bare 13 = .ok (.sipush 495, 3) := by decide +kernel
theorem dX6_bare_16 : decode cX6_bare 16 = .ok (.invokestatic 69, 3) := by decide +kernel
theorem dX6_bare_19 : decode cX6_bare 19 = .ok (.ifCond .ne 5, 3) := by decide +kernel
theorem dX6_bare_22 : decode cX6_bare 22 = .ok (.iconst (-1), 1) := by decide +kernel
theorem dX6_bare_23 : decode cX6_bare 23 = .ok (.ireturn, 1) := by decide +kernel
theorem dX6_bare_24 : decode cX6_bare 24 = .ok (.aload_n 0, 1) := by decide +kernel
theorem dX6_bare_25 : decode cX6_bare 25 = .ok (.getfield 16, 3) := by decide +kernel
theorem dX6_bare_28 : decode cX6_bare 28 = .ok (.aload_n 0, 1) := by decide +kernel
theorem dX6_bare_29 : decode cX6_bare 29 = .ok (.getfield 12, 3) := by decide +kernel
theorem dX6_bare_32 : decode cX6_bare 32 = .ok (.invokevirtual 93, 3) := by decide +kernel
theorem dX6_bare_35 : decode cX6_bare 35 = .ok (.iconst 0, 1) := by decide +kernel
theorem dX6_bare_36 : decode cX6_bare 36 = .ok (.istore_n 3, 1) := by decide +kernel
theorem dX6_bare_37 : decode cX6_bare 37 = .ok (.iload_n 3, 1) := by decide +kernel
theorem dX6_bare_38 : decode cX6_bare 38 = .ok (.bipush 60, 2) := by decide +kernel
theorem dX6_bare_40 : decode cX6_bare 40 = .ok (.if_icmp .gt 31, 3) := by decide +kernel
theorem dX6_bare_43 : decode cX6_bare 43 = .ok (.aload_n 0, 1) := by decide +kernel
theorem dX6_bare_44 : decode cX6_bare 44 = .ok (.getfield 16, 3) := by decide +kernel
theorem dX6_bare_47 : decode cX6_bare 47 = .ok (.iload_n 1, 1) := by decide +kernel
theorem dX6_bare_48 : decode cX6_bare 48 = .ok (.invokevirtual 138, 3) := by decide +kernel
theorem dX6_bare_51 : decode cX6_bare 51 = .ok (.iload_n 2, 1) := by decide +kernel
theorem dX6_bare_52 : decode cX6_bare 52 = .ok (.if_icmp .gt 5, 3) := by decide +kernel
theorem dX6_bare_55 : decode cX6_bare 55 = .ok (.iload_n 3, 1) := by decide +kernel
theorem dX6_bare_56 : decode cX6_bare 56 = .ok (.ireturn, 1) := by decide +kernel
theorem dX6_bare_57 : decode cX6_bare 57 = .ok (.aload_n 0, 1) := by decide +kernel
theorem dX6_bare_58 : decode cX6_bare 58 = .ok (.getfield 16, 3) := by decide +kernel
theorem dX6_bare_61 : decode cX6_bare 61 = .ok (.invokevirtual 207, 3) := by decide +kernel
theorem dX6_bare_64 : decode cX6_bare 64 = .ok (.pop, 1) := by decide +kernel
theorem dX6_bare_65 : decode cX6_bare 65 = .ok (.iinc 3 1, 3) := by decide +kernel
theorem dX6_bare_68 : decode cX6_bare 68 = .ok (.goto (-31), 3) := by decide +kernel
theorem dX6_bare_71 : decode cX6_bare 71 = .ok (.bipush (-4), 2) := by decide +kernel
theorem dX6_bare_73 : decode cX6_bare 73 = .ok (.ireturn, 1) := by decide +kernel
set_option maxRecDepth 20000 in
theorem ggX6_rich_X6_isWithin : GoodIn wsX6_rich wsX6_isWithin := goodIn_r _ [6] (by decide +kernel) (by decide +kernel)
set_option maxRecDepth 20000 in
theorem gX6_rich_X6_isWithin : GoodIn wsX6_rich (va_wsS RX6 69 yX6_isWithin wsX6_isWithin) := goodIn_app (goodIn_of _ (by decide +kernel)) ggX6_rich_X6_isWithin
set_option maxRecDepth 20000 in
theorem ggX6_rich_X0_copyFrom : GoodIn wsX6_rich wsX0_copyFrom := goodIn_r _ [10, 11, 12, 13, 14, 15, 16, 17, 18, 19, 20, 21, 22, 23, 24, 25, 26, 27, 71, 72, 73, 74, 75, 76, 77, 78, 79, 80, 81, 82, 83] (by decide +kernel) (by decide +kernel)
set_option maxRecDepth 20000 in
theorem gX6_rich_X0_copyFrom_n93 : GoodIn wsX6_rich (wsX0_copyFrom) := ggX6_rich_X0_copyFrom
set_option maxRecDepth 20000 in
theorem ggX6_rich_X0_passWeeks : GoodIn wsX6_rich wsX0_passWeeks := goodIn_r _ [30, 31, 32, 33, 8, 34, 11, 23, 12, 35, 36, 37, 38, 19, 39, 40, 41, 42, 21, 43, 44, 45, 46, 14, 47, 48, 49, 50, 51, 52, 53, 54, 55, 56, 71, 72, 73, 74, 75, 76, 77, 78, 79, 80, 81, 82, 83] (by decide +kernel) (by decide +kernel)
set_option maxRecDepth 20000 in
theorem gX6_rich_X0_passWeeks_n194 : GoodIn wsX6_rich (wsX0_passWeeks) := ggX6_rich_X0_passWeeks
set_option maxRecDepth 20000 in
theorem ggX6_rich_X0_worth : GoodIn wsX6_rich wsX0_worth := goodIn_r _ [59, 22, 11, 20, 39, 40, 41, 8, 42, 21, 71, 72, 73, 74, 75, 76, 77, 78, 79, 80, 81, 82, 83] (by decide +kernel) (by decide +kernel)
set_option maxRecDepth 20000 in
theorem gX6_rich_X0_worth_n210 : GoodIn wsX6_rich (wsX0_worth) := ggX6_rich_X0_worth
theorem dX6_rich_0 : decode cX6_rich 0 = .ok (.iload_n 1, 1) := by decide +kernel
theorem dX6_rich_1 : decode cX6_rich 1 = .ok (.iconst 0, 1) := by decide +kernel
theorem dX6_rich_2 : decode cX6_rich 2 = .ok (.bipush 60, 2) := by decide +kernel
theorem dX6_rich_4 : decode cX6_rich 4 = .ok (.invokestatic 69, 3) := by decide +kernel
theorem dX6_rich_7 : decode cX6_rich 7 = .ok (.ifCond .eq 12, 3) := by decide +kernel
theorem dX6_rich_10 : decode cX6_rich 10 = .ok (.iload_n 2, 1) := by decide +kernel
theorem dX6_rich_11 : decode cX6_rich 11 = .ok (.iconst 0, 1) := by decide +kernel
theorem dX6_rich_12 : decode cX6_rich 12 = .ok (.iconst 1, 1) := by decide +kernel
theorem dX6_rich_13 : decode cX6_rich 13 = .ok (.invokestatic 69, 3) := by decide +kernel
theorem dX6_rich_16 : decode cX6_rich 16 = .ok (.ifCond .ne 5, 3) := by decide +kernel
theorem dX6_rich_19 : decode cX6_rich 19 = .ok (.iconst (-1), 1) := by decide +kernel
theorem dX6_rich_20 : decode cX6_rich 20 = .ok (.ireturn, 1) := by decide +kernel
theorem dX6_rich_21 : decode cX6_rich 21 = .ok (.aload_n 0, 1) := by decide +kernel
theorem dX6_rich_22 : decode cX6_rich 22 = .ok (.getfield 16, 3) := by decide +kernel
theorem dX6_rich_25 : decode cX6_rich 25 = .ok (.aload_n 0, 1) := by decide +kernel
theorem dX6_rich_26 : decode cX6_rich 26 = .ok (.getfield 12, 3) := by decide +kernel
theorem dX6_rich_29 : decode cX6_rich 29 = .ok (.invokevirtual 93, 3) := by decide +kernel
theorem dX6_rich_32 : decode cX6_rich 32 = .ok (.aload_n 0, 1) := by decide +kernel
theorem dX6_rich_33 : decode cX6_rich 33 = .ok (.getfield 16, 3) := by decide +kernel
theorem dX6_rich_36 : decode cX6_rich 36 = .ok (.iload_n 1, 1) := by decide +kernel
theorem dX6_rich_37 : decode cX6_rich 37 = .ok (.invokevirtual 194, 3) := by decide +kernel
theorem dX6_rich_40 : decode cX6_rich 40 = .ok (.pop, 1) := by decide +kernel
theorem dX6_rich_41 : decode cX6_rich 41 = .ok (.iconst 0, 1) := by decide +kernel
theorem dX6_rich_42 : decode cX6_rich 42 = .ok (.istore_n 3, 1) := by decide +kernel
theorem dX6_rich_43 : decode cX6_rich 43 = .ok (.iconst 1, 1) := by decide +kernel
theorem dX6_rich_44 : decode cX6_rich 44 = .ok (.istore 4, 2) := by decide +kernel
theorem dX6_rich_46 : decode cX6_rich 46 = .ok (.iload 4, 2) := by decide +kernel
theorem dX6_rich_48 : decode cX6_rich 48 = .ok (.iconst 5, 1) := by decide +kernel
theorem dX6_rich_49 : decode cX6_rich 49 = .ok (.if_icmp .ge 32, 3) := by decide +kernel
theorem dX6_rich_52 : decode cX6_rich 52 = .ok (.aload_n 0, 1) := by decide +kernel
theorem dX6_rich_53 : decode cX6_rich 53 = .ok (.getfield 16, 3) := by decide +kernel
theorem dX6_rich_56 : decode cX6_rich 56 = .ok (.iload 4, 2) := by decide +kernel
theorem dX6_rich_58 : decode cX6_rich 58 = .ok (.invokevirtual 210, 3) := by decide +kernel
theorem dX6_rich_61 : decode cX6_rich 61 = .ok (.aload_n 0, 1) := by decide +kernel
theorem dX6_rich_62 : decode cX6_rich 62 = .ok (.getfield 16, 3) := by decide +kernel
theorem dX6_rich_65 : decode cX6_rich 65 = .ok (.iload_n 3, 1) := by decide +kernel
theorem dX6_rich_66 : decode cX6_rich 66 = .ok (.invokevirtual 210, 3) := by decide +kernel
theorem dX6_rich_69 : decode cX6_rich 69 = .ok (.if_icmp .le 6, 3) := by decide +kernel
theorem dX6_rich_72 : decode cX6_rich 72 = .ok (.iload 4, 2) := by decide +kernel
theorem dX6_rich_74 : decode cX6_rich 74 = .ok (.istore_n 3, 1) := by decide +kernel
theorem dX6_rich_75 : decode cX6_rich 75 = .ok (.iinc 4 1, 3) := by decide +kernel
theorem dX6_rich_78 : decode cX6_rich 78 = .ok (.goto (-32), 3) := by decide +kernel
theorem dX6_rich_81 : decode cX6_rich 81 = .ok (.iload_n 2, 1) := by decide +kernel
theorem dX6_rich_82 : decode cX6_rich 82 = .ok (.ifCond .ne 7, 3) := by decide +kernel
theorem dX6_rich_85 : decode cX6_rich 85 = .ok (.iload_n 3, 1) := by decide +kernel
theorem dX6_rich_86 : decode cX6_rich 86 = .ok (.goto 11, 3) := by decide +kernel
theorem dX6_rich_89 : decode cX6_rich 89 = .ok (.aload_n 0, 1) := by decide +kernel
theorem dX6_rich_90 : decode cX6_rich 90 = .ok (.getfield 16, 3) := by decide +kernel
theorem dX6_rich_93 : decode cX6_rich 93 = .ok (.iload_n 3, 1) := by decide +kernel
theorem dX6_rich_94 : decode cX6_rich 94 = .ok (.invokevirtual 210, 3) := by decide +kernel
theorem dX6_rich_97 : decode cX6_rich 97 = .ok (.ireturn, 1) := by decide +kernel
set_option maxRecDepth 20000 in
theorem ggX6_turn_X0_hasGoose : GoodIn wsX6_turn wsX0_hasGoose := goodIn_r _ [6, 7, 8, 9, 10, 66, 67, 68, 69, 70, 71, 72, 73, 74, 75, 76, 77, 78] (by decide +kernel) (by decide +kernel)
set_option maxRecDepth 20000 in
theorem gX6_turn_X0_hasGoose_n126 : GoodIn wsX6_turn (wsX0_hasGoose) := ggX6_turn_X0_hasGoose
set_option maxRecDepth 20000 in
theorem ggX6_turn_X0_eggOwner : GoodIn wsX6_turn wsX0_eggOwner := goodIn_r _ [13, 14, 15, 16, 17, 4, 18, 19, 66, 67, 68, 69, 70, 71, 72, 73, 74, 75, 76, 77, 78] (by decide +kernel) (by decide +kernel)
set_option maxRecDepth 20000 in
theorem gX6_turn_X0_eggOwner_n142 : GoodIn wsX6_turn (wsX0_eggOwner) := ggX6_turn_X0_eggOwner
set_option maxRecDepth 20000 in
theorem ggX6_turn_X0_copyFrom : GoodIn wsX6_turn wsX0_copyFrom := goodIn_r _ [22, 7, 23, 24, 25, 26, 27, 28, 29, 14, 30, 19, 31, 32, 33, 34, 35, 36, 66, 67, 68, 69, 70, 71, 72, 73, 74, 75, 76, 77, 78] (by decide +kernel) (by decide +kernel)
set_option maxRecDepth 20000 in
theorem gX6_turn_X0_copyFrom_n93 : GoodIn wsX6_turn (wsX0_copyFrom) := ggX6_turn_X0_copyFrom
set_option maxRecDepth 20000 in
theorem ggX6_turn_X0_passWeek : GoodIn wsX6_turn wsX0_passWeek := goodIn_r _ [39, 7, 32, 23, 40, 11, 12, 4, 13, 14, 15, 16, 17, 18, 19, 41, 42, 43, 44, 25, 45, 46, 47, 48, 49, 50, 51, 52, 53, 54, 66, 67, 68, 69, 70, 71, 72, 73, 74, 75, 76, 77, 78] (by decide +kernel) (by decide +kernel)
set_option maxRecDepth 20000 in
theorem gX6_turn_X0_passWeek_n207 : GoodIn wsX6_turn (wsX0_passWeek) := ggX6_turn_X0_passWeek
theorem dX6_turn_0 : decode cX6_turn 0 = .ok (.aload_n 0, 1) := by decide +kernel
theorem dX6_turn_1 : decode cX6_turn 1 = .ok (.getfield 12, 3) := by decide +kernel
theorem dX6_turn_4 : decode cX6_turn 4 = .ok (.iload_n 1, 1) := by decide +kernel
theorem dX6_turn_5 : decode cX6_turn 5 = .ok (.invokevirtual 126, 3) := by decide +kernel
theorem dX6_turn_8 : decode cX6_turn 8 = .ok (.ifCond .ne 5, 3) := by decide +kernel
theorem dX6_turn_11 : decode cX6_turn 11 = .ok (.iconst (-1), 1) := by decide +kernel
theorem dX6_turn_12 : decode cX6_turn 12 = .ok (.ireturn, 1) := by decide +kernel
theorem dX6_turn_13 : decode cX6_turn 13 = .ok (.aload_n 0, 1) := by decide +kernel
theorem dX6_turn_14 : decode cX6_turn 14 = .ok (.getfield 12, 3) := by decide +kernel
theorem dX6_turn_17 : decode cX6_turn 17 = .ok (.iload_n 1, 1) := by decide +kernel
theorem dX6_turn_18 : decode cX6_turn 18 = .ok (.invokevirtual 142, 3) := by decide +kernel
theorem dX6_turn_21 : decode cX6_turn 21 = .ok (.istore_n 2, 1) := by decide +kernel
theorem dX6_turn_22 : decode cX6_turn 22 = .ok (.aload_n 0, 1) := by decide +kernel
theorem dX6_turn_23 : decode cX6_turn 23 = .ok (.getfield 16, 3) := by decide +kernel
theorem dX6_turn_26 : decode cX6_turn 26 = .ok (.aload_n 0, 1) := by decide +kernel
theorem dX6_turn_27 : decode cX6_turn 27 = .ok (.getfield 12, 3) := by decide +kernel
theorem dX6_turn_30 : decode cX6_turn 30 = .ok (.invokevirtual 93, 3) := by decide +kernel
theorem dX6_turn_33 : decode cX6_turn 33 = .ok (.iconst 1, 1) := by decide +kernel
theorem dX6_turn_34 : decode cX6_turn 34 = .ok (.istore_n 3, 1) := by decide +kernel
theorem dX6_turn_35 : decode cX6_turn 35 = .ok (.iload_n 3, 1) := by decide +kernel
theorem dX6_turn_36 : decode cX6_turn 36 = .ok (.bipush 60, 2) := by decide +kernel
theorem dX6_turn_38 : decode cX6_turn 38 = .ok (.if_icmp .gt 31, 3) := by decide +kernel
theorem dX6_turn_41 : decode cX6_turn 41 = .ok (.aload_n 0, 1) := by decide +kernel
theorem dX6_turn_42 : decode cX6_turn 42 = .ok (.getfield 16, 3) := by decide +kernel
theorem dX6_turn_45 : decode cX6_turn 45 = .ok (.invokevirtual 207, 3) := by decide +kernel
theorem dX6_turn_48 : decode cX6_turn 48 = .ok (.pop, 1) := by decide +kernel
theorem dX6_turn_49 : decode cX6_turn 49 = .ok (.aload_n 0, 1) := by decide +kernel
theorem dX6_turn_50 : decode cX6_turn 50 = .ok (.getfield 16, 3) := by decide +kernel
theorem dX6_turn_53 : decode cX6_turn 53 = .ok (.iload_n 1, 1) := by decide +kernel
theorem dX6_turn_54 : decode cX6_turn 54 = .ok (.invokevirtual 142, 3) := by decide +kernel
theorem dX6_turn_57 : decode cX6_turn 57 = .ok (.iload_n 2, 1) := by decide +kernel
theorem dX6_turn_58 : decode cX6_turn 58 = .ok (.if_icmp .eq 5, 3) := by decide +kernel
theorem dX6_turn_61 : decode cX6_turn 61 = .ok (.iload_n 3, 1) := by decide +kernel
theorem dX6_turn_62 : decode cX6_turn 62 = .ok (.ireturn, 1) := by decide +kernel
theorem dX6_turn_63 : decode cX6_turn 63 = .ok (.iinc 3 1, 3) := by decide +kernel
theorem dX6_turn_66 : decode cX6_turn 66 = .ok (.goto (-31), 3) := by decide +kernel
theorem dX6_turn_69 : decode cX6_turn 69 = .ok (.bipush (-4), 2) := by decide +kernel
theorem dX6_turn_71 : decode cX6_turn 71 = .ok (.ireturn, 1) := by decide +kernel
set_option maxRecDepth 20000 in
theorem ggX6_need_X6_isOwner : GoodIn wsX6_need wsX6_isOwner := goodIn_r _ [6, 7, 8, 5, 9] (by decide +kernel) (by decide +kernel)
set_option maxRecDepth 20000 in
theorem gX6_need_X6_isOwner : GoodIn wsX6_need (va_wsS RX6 145 yX6_isOwner wsX6_isOwner) := goodIn_app (goodIn_of _ (by decide +kernel)) ggX6_need_X6_isOwner
set_option maxRecDepth 20000 in
theorem ggX6_need_X0_hasGoose : GoodIn wsX6_need wsX0_hasGoose := goodIn_r _ [13, 14, 8, 5, 9, 67, 68, 69, 70, 71, 72, 73, 74, 75, 76, 77, 78, 79] (by decide +kernel) (by decide +kernel)
set_option maxRecDepth 20000 in
theorem gX6_need_X0_hasGoose_n126 : GoodIn wsX6_need (wsX0_hasGoose) := ggX6_need_X0_hasGoose
set_option maxRecDepth 20000 in
theorem ggX6_need_X6_isWithin : GoodIn wsX6_need wsX6_isWithin := goodIn_r _ [9] (by decide +kernel) (by decide +kernel)
set_option maxRecDepth 20000 in
theorem gX6_need_X6_isWithin : GoodIn wsX6_need (va_wsS RX6 69 yX6_isWithin wsX6_isWithin) := goodIn_app (goodIn_of _ (by decide +kernel)) ggX6_need_X6_isWithin
set_option maxRecDepth 20000 in
theorem ggX6_need_X0_eggOwner : GoodIn wsX6_need wsX0_eggOwner := goodIn_r _ [17, 18, 19, 20, 21, 11, 22, 23, 67, 68, 69, 70, 71, 72, 73, 74, 75, 76, 77, 78, 79] (by decide +kernel) (by decide +kernel)
set_option maxRecDepth 20000 in
theorem gX6_need_X0_eggOwner_n142 : GoodIn wsX6_need (wsX0_eggOwner) := ggX6_need_X0_eggOwner
set_option maxRecDepth 20000 in
theorem ggX6_need_X0_copyFrom : GoodIn wsX6_need wsX0_copyFrom := goodIn_r _ [26, 14, 27, 28, 29, 30, 31, 32, 33, 18, 34, 23, 35, 36, 37, 38, 39, 40, 67, 68, 69, 70, 71, 72, 73, 74, 75, 76, 77, 78, 79] (by decide +kernel) (by decide +kernel)
set_option maxRecDepth 20000 in
theorem gX6_need_X0_copyFrom_n93 : GoodIn wsX6_need (wsX0_copyFrom) := ggX6_need_X0_copyFrom
set_option maxRecDepth 20000 in
theorem ggX6_need_X0_canTrade : GoodIn wsX6_need wsX0_canTrade := goodIn_r _ [43, 34, 35, 44, 45, 46, 11, 47, 19, 20, 21, 22, 23, 67, 68, 69, 70, 71, 72, 73, 74, 75, 76, 77, 78, 79] (by decide +kernel) (by decide +kernel)
set_option maxRecDepth 20000 in
theorem gX6_need_X0_canTrade_n181 : GoodIn wsX6_need (wsX0_canTrade) := ggX6_need_X0_canTrade
set_option maxRecDepth 20000 in
theorem ggX6_need_X0_wouldGetEgg : GoodIn wsX6_need wsX0_wouldGetEgg := goodIn_r _ [50, 51, 52, 53, 11, 54, 23, 55, 15, 16, 17, 18, 19, 20, 21, 22, 67, 68, 69, 70, 71, 72, 73, 74, 75, 76, 77, 78, 79] (by decide +kernel) (by decide +kernel)
set_option maxRecDepth 20000 in
theorem gX6_need_X0_wouldGetEgg_n213 : GoodIn wsX6_need (wsX0_wouldGetEgg) := ggX6_need_X0_wouldGetEgg
theorem dX6_need_0 : decode cX6_need 0 = .ok (.iload_n 1, 1) := by decide +kernel
theorem dX6_need_1 : decode cX6_need 1 = .ok (.invokestatic 145, 3) := by decide +kernel
theorem dX6_need_4 : decode cX6_need 4 = .ok (.ifCond .eq 23, 3) := by decide +kernel
theorem dX6_need_7 : decode cX6_need 7 = .ok (.aload_n 0, 1) := by decide +kernel
theorem dX6_need_8 : decode cX6_need 8 = .ok (.getfield 12, 3) := by decide +kernel
theorem dX6_need_11 : decode cX6_need 11 = .ok (.iload_n 2, 1) := by decide +kernel
theorem dX6_need_12 : decode cX6_need 12 = .ok (.invokevirtual 126, 3) := by decide +kernel
theorem dX6_need_15 : decode cX6_need 15 = .ok (.ifCond .eq 12, 3) := by decide +kernel
theorem dX6_need_18 : decode cX6_need 18 = .ok (.iload_n 3, 1) := by decide +kernel
theorem dX6_need_19 : decode cX6_need 19 = .ok (.iconst 0, 1) := by decide +kernel
theorem dX6_need_20 : decode cX6_need 20 = .ok (.iconst 1, 1) := by decide +kernel
theorem dX6_need_21 : decode cX6_need 21 = .ok (.invokestatic 69, 3) := by decide +kernel
theorem dX6_need_24 : decode cX6_need 24 = .ok (.ifCond .ne 5, 3) := by decide +kernel
theorem dX6_need_27 : decode cX6_need 27 = .ok (.iconst (-1), 1) := by decide +kernel
theorem dX6_need_28 : decode cX6_need 28 = .ok (.ireturn, 1) := by decide +kernel
theorem dX6_need_29 : decode cX6_need 29 = .ok (.aload_n 0, 1) := by decide +kernel
theorem dX6_need_30 : decode cX6_need 30 = .ok (.getfield 12, 3) := by decide +kernel
theorem dX6_need_33 : decode cX6_need 33 = .ok (.iload_n 2, 1) := by decide +kernel
theorem dX6_need_34 : decode cX6_need 34 = .ok (.invokevirtual 142, 3) := by decide +kernel
theorem dX6_need_37 : decode cX6_need 37 = .ok (.iload_n 1, 1) := by decide +kernel
theorem dX6_need_38 : decode cX6_need 38 = .ok (.if_icmp .ne 6, 3) := by decide +kernel
theorem dX6_need_41 : decode cX6_need 41 = .ok (.bipush (-2), 2) := by decide +kernel
theorem dX6_need_43 : decode cX6_need 43 = .ok (.ireturn, 1) := by decide +kernel
theorem dX6_need_44 : decode cX6_need 44 = .ok (.aload_n 0, 1) := by decide +kernel
theorem dX6_need_45 : decode cX6_need 45 = .ok (.getfield 16, 3) := by decide +kernel
theorem dX6_need_48 : decode cX6_need 48 = .ok (.aload_n 0, 1) := by decide +kernel
theorem dX6_need_49 : decode cX6_need 49 = .ok (.getfield 12, 3) := by decide +kernel
theorem dX6_need_52 : decode cX6_need 52 = .ok (.invokevirtual 93, 3) := by decide +kernel
theorem dX6_need_55 : decode cX6_need 55 = .ok (.iconst 1, 1) := by decide +kernel
theorem dX6_need_56 : decode cX6_need 56 = .ok (.istore 4, 2) := by decide +kernel
theorem dX6_need_58 : decode cX6_need 58 = .ok (.iload 4, 2) := by decide +kernel
theorem dX6_need_60 : decode cX6_need 60 = .ok (.bipush 9, 2) := by decide +kernel
theorem dX6_need_62 : decode cX6_need 62 = .ok (.if_icmp .gt 90, 3) := by decide +kernel
theorem dX6_need_65 : decode cX6_need 65 = .ok (.iconst 0, 1) := by decide +kernel
theorem dX6_need_66 : decode cX6_need 66 = .ok (.istore 5, 2) := by decide +kernel
theorem dX6_need_68 : decode cX6_need 68 = .ok (.iload 5, 2) := by decide +kernel
theorem dX6_need_70 : decode cX6_need 70 = .ok (.iconst 5, 1) := by decide +kernel
theorem dX6_need_71 : decode cX6_need 71 = .ok (.if_icmp .ge 75, 3) := by decide +kernel
theorem dX6_need_74 : decode cX6_need 74 = .ok (.iload 5, 2) := by decide +kernel
theorem dX6_need_76 : decode cX6_need 76 = .ok (.iload_n 1, 1) := by decide +kernel
theorem dX6_need_77 : decode cX6_need 77 = .ok (.if_icmp .eq 63, 3) := by decide +kernel
theorem dX6_need_80 : decode cX6_need 80 = .ok (.aload_n 0, 1) := by decide +kernel
theorem dX6_need_81 : decode cX6_need 81 = .ok (.getfield 16, 3) := by decide +kernel
theorem dX6_need_84 : decode cX6_need 84 = .ok (.iload_n 1, 1) := by decide +kernel
theorem dX6_need_85 : decode cX6_need 85 = .ok (.iload 5, 2) := by decide +kernel
theorem dX6_need_87 : decode cX6_need 87 = .ok (.iload_n 2, 1) := by decide +kernel
theorem dX6_need_88 : decode cX6_need 88 = .ok (.iload 4, 2) := by decide +kernel
theorem dX6_need_90 : decode cX6_need 90 = .ok (.invokevirtual 181, 3) := by decide +kernel
theorem dX6_need_93 : decode cX6_need 93 = .ok (.ifCond .eq 47, 3) := by decide +kernel
theorem dX6_need_96 : decode cX6_need 96 = .ok (.aload_n 0, 1) := by decide +kernel
theorem dX6_need_97 : decode cX6_need 97 = .ok (.getfield 16, 3) := by decide +kernel
theorem dX6_need_100 : decode cX6_need 100 = .ok (.iload_n 1, 1) := by decide +kernel
theorem dX6_need_101 : decode cX6_need 101 = .ok (.iload 5, 2) := by decide +kernel
theorem dX6_need_103 : decode cX6_need 103 = .ok (.iload_n 2, 1) := by decide +kernel
theorem dX6_need_104 : decode cX6_need 104 = .ok (.iload 4, 2) := by decide +kernel
theorem dX6_need_106 : decode cX6_need 106 = .ok (.invokevirtual 213, 3) := by decide +kernel
theorem dX6_need_109 : decode cX6_need 109 = .ok (.ifCond .eq 31, 3) := by decide +kernel
theorem dX6_need_112 : decode cX6_need 112 = .ok (.iload_n 3, 1) := by decide +kernel
theorem dX6_need_113 : decode cX6_need 113 = .ok (.ifCond .ne 14, 3) := by decide +kernel
theorem dX6_need_116 : decode cX6_need 116 = .ok (.bipush 10, 2) := by decide +kernel
theorem dX6_need_118 : decode cX6_need 118 = .ok (.iload 5, 2) := by decide +kernel
theorem dX6_need_120 : decode cX6_need 120 = .ok (.imul, 1) := by decide +kernel
theorem dX6_need_121 : decode cX6_need 121 = .ok (.iload 4, 2) := by decide +kernel
theorem dX6_need_123 : decode cX6_need 123 = .ok (.iadd, 1) := by decide +kernel
theorem dX6_need_124 : decode cX6_need 124 = .ok (.goto 15, 3) := by decide +kernel
theorem dX6_need_127 : decode cX6_need 127 = .ok (.iload 4, 2) := by decide +kernel
theorem dX6_need_129 : decode cX6_need 129 = .ok (.aload_n 0, 1) := by decide +kernel
theorem dX6_need_130 : decode cX6_need 130 = .ok (.getfield 12, 3) := by decide +kernel
theorem dX6_need_133 : decode cX6_need 133 = .ok (.getfield 135, 3) := by decide +kernel
theorem dX6_need_136 : decode cX6_need 136 = .ok (.iload_n 2, 1) := by decide +kernel
theorem dX6_need_137 : decode cX6_need 137 = .ok (.iaload, 1) := by decide +kernel
theorem dX6_need_138 : decode cX6_need 138 = .ok (.imul, 1) := by decide +kernel
theorem dX6_need_139 : decode cX6_need 139 = .ok (.ireturn, 1) := by decide +kernel
theorem dX6_need_140 : decode cX6_need 140 = .ok (.iinc 5 1, 3) := by decide +kernel
theorem dX6_need_143 : decode cX6_need 143 = .ok (.goto (-75), 3) := by decide +kernel
theorem dX6_need_146 : decode cX6_need 146 = .ok (.iinc 4 1, 3) := by decide +kernel
theorem dX6_need_149 : decode cX6_need 149 = .ok (.goto (-91), 3) := by decide +kernel
theorem dX6_need_152 : decode cX6_need 152 = .ok (.bipush (-4), 2) := by decide +kernel
theorem dX6_need_154 : decode cX6_need 154 = .ok (.ireturn, 1) := by decide +kernel
set_option maxRecDepth 20000 in
theorem ggX6_best_X6_isOwner : GoodIn wsX6_best wsX6_isOwner := goodIn_r _ [6, 7, 8, 5, 9] (by decide +kernel) (by decide +kernel)
set_option maxRecDepth 20000 in
theorem gX6_best_X6_isOwner : GoodIn wsX6_best (va_wsS RX6 145 yX6_isOwner wsX6_isOwner) := goodIn_app (goodIn_of _ (by decide +kernel)) ggX6_best_X6_isOwner
set_option maxRecDepth 20000 in
theorem ggX6_best_X6_isWithin : GoodIn wsX6_best wsX6_isWithin := goodIn_r _ [9] (by decide +kernel) (by decide +kernel)
set_option maxRecDepth 20000 in
theorem gX6_best_X6_isWithin : GoodIn wsX6_best (va_wsS RX6 69 yX6_isWithin wsX6_isWithin) := goodIn_app (goodIn_of _ (by decide +kernel)) ggX6_best_X6_isWithin
set_option maxRecDepth 20000 in
theorem ggX6_best_X1_findBest : GoodIn wsX6_best wsX1_findBest := goodIn_r _ [13, 14, 15, 16, 17, 18, 19, 20, 21, 22, 23, 24, 25, 26, 27, 28, 29, 30, 31, 32, 33, 34, 35, 36, 37, 38, 39, 40, 41, 42, 43, 44, 45, 46, 47, 48, 49, 50, 51, 52, 53, 54, 55, 56, 57, 58, 59, 60, 61, 62, 63, 64, 11, 65, 66, 67, 68, 69, 70, 71, 72, 73, 74, 75, 76, 77, 78, 79, 80, 81, 82, 83, 84, 85, 86, 87, 88, 89, 90, 91, 92, 93, 94, 95, 96, 97, 98, 99, 100, 101, 102, 103, 104, 116, 117, 118, 119, 120, 121, 122, 123, 124, 125, 126, 127, 128, 129, 130, 131, 132, 133, 134, 135, 136, 137] (by decide +kernel) (by decide +kernel)
set_option maxRecDepth 20000 in
theorem gX6_best_X1_findBest_n216 : GoodIn wsX6_best (wsX1_findBest) := ggX6_best_X1_findBest
theorem dX6_best_0 : decode cX6_best 0 = .ok (.iload_n 1, 1) := by decide +kernel
theorem dX6_best_1 : decode cX6_best 1 = .ok (.invokestatic 145, 3) := by decide +kernel
theorem dX6_best_4 : decode cX6_best 4 = .ok (.ifCond .eq 12, 3) := by decide +kernel
theorem dX6_best_7 : decode cX6_best 7 = .ok (.iload_n 2, 1) := by decide +kernel
theorem dX6_best_8 : decode cX6_best 8 = .ok (.iconst 0, 1) := by decide +kernel
theorem dX6_best_9 : decode cX6_best 9 = .ok (.iconst 2, 1) := by decide +kernel
theorem dX6_best_10 : decode cX6_best 10 = .ok (.invokestatic 69, 3) := by decide +kernel
theorem dX6_best_13 : decode cX6_best 13 = .ok (.ifCond .ne 5, 3) := by decide +kernel
theorem dX6_best_16 : decode cX6_best 16 = .ok (.iconst (-1), 1) := by decide +kernel
theorem dX6_best_17 : decode cX6_best 17 = .ok (.ireturn, 1) := by decide +kernel
theorem dX6_best_18 : decode cX6_best 18 = .ok (.iload_n 3, 1) := by decide +kernel
theorem dX6_best_19 : decode cX6_best 19 = .ok (.iconst 0, 1) := by decide +kernel
theorem dX6_best_20 : decode cX6_best 20 = .ok (.iconst 2, 1) := by decide +kernel
theorem dX6_best_21 : decode cX6_best 21 = .ok (.invokestatic 69, 3) := by decide +kernel
theorem dX6_best_24 : decode cX6_best 24 = .ok (.ifCond .ne 16, 3) := by decide +kernel
theorem dX6_best_27 : decode cX6_best 27 = .ok (.iload_n 3, 1) := by decide +kernel
theorem dX6_best_28 : decode cX6_best 28 = .ok (.bipush 10, 2) := by decide +kernel
theorem dX6_best_30 : decode cX6_best 30 = .ok (.bipush 11, 2) := by decide +kernel
theorem dX6_best_32 : decode cX6_best 32 = .ok (.invokestatic 69, 3) := by decide +kernel
theorem dX6_best_35 : decode cX6_best 35 = .ok (.ifCond .ne 5, 3) := by decide +kernel
theorem dX6_best_38 : decode cX6_best 38 = .ok (.iconst (-1), 1) := by decide +kernel
theorem dX6_best_39 : decode cX6_best 39 = .ok (.ireturn, 1) := by decide +kernel
theorem dX6_best_40 : decode cX6_best 40 = .ok (.aload_n 0, 1) := by decide +kernel
theorem dX6_best_41 : decode cX6_best 41 = .ok (.getfield 55, 3) := by decide +kernel
theorem dX6_best_44 : decode cX6_best 44 = .ok (.aload_n 0, 1) := by decide +kernel
theorem dX6_best_45 : decode cX6_best 45 = .ok (.getfield 12, 3) := by decide +kernel
theorem dX6_best_48 : decode cX6_best 48 = .ok (.iload_n 1, 1) := by decide +kernel
theorem dX6_best_49 : decode cX6_best 49 = .ok (.iload_n 2, 1) := by decide +kernel
theorem dX6_best_50 : decode cX6_best 50 = .ok (.invokevirtual 216, 3) := by decide +kernel
theorem dX6_best_53 : decode cX6_best 53 = .ok (.iload_n 3, 1) := by decide +kernel
theorem dX6_best_54 : decode cX6_best 54 = .ok (.lookupswitch 74 #[(0, 42), (1, 50), (2, 58), (10, 66)], 42) := by decide +kernel
theorem dX6_best_96 : decode cX6_best 96 = .ok (.aload_n 0, 1) := by decide +kernel
theorem dX6_best_97 : decode cX6_best 97 = .ok (.getfield 55, 3) := by decide +kernel
theorem dX6_best_100 : decode cX6_best 100 = .ok (.getfield 220, 3) := by decide +kernel
theorem dX6_best_103 : decode cX6_best 103 = .ok (.ireturn, 1) := by decide +kernel
theorem dX6_best_104 : decode cX6_best 104 = .ok (.aload_n 0, 1) := by decide +kernel
theorem dX6_best_105 : decode cX6_best 105 = .ok (.getfield 55, 3) := by decide +kernel
theorem dX6_best_108 : decode cX6_best 108 = .ok (.getfield 223, 3) := by decide +kernel
theorem dX6_best_111 : decode cX6_best 111 = .ok (.ireturn, 1) := by decide +kernel
theorem dX6_best_112 : decode cX6_best 112 = .ok (.aload_n 0, 1) := by decide +kernel
theorem dX6_best_113 : decode cX6_best 113 = .ok (.getfield 55, 3) := by decide +kernel
theorem dX6_best_116 : decode cX6_best 116 = .ok (.getfield 226, 3) := by decide +kernel
theorem dX6_best_119 : decode cX6_best 119 = .ok (.ireturn, 1) := by decide +kernel
theorem dX6_best_120 : decode cX6_best 120 = .ok (.aload_n 0, 1) := by decide +kernel
theorem dX6_best_121 : decode cX6_best 121 = .ok (.getfield 55, 3) := by decide +kernel
theorem dX6_best_124 : decode cX6_best 124 = .ok (.getfield 229, 3) := by decide +kernel
theorem dX6_best_127 : decode cX6_best 127 = .ok (.ireturn, 1) := by decide +kernel
theorem dX6_best_128 : decode cX6_best 128 = .ok (.aload_n 0, 1) := by decide +kernel
theorem dX6_best_129 : decode cX6_best 129 = .ok (.getfield 55, 3) := by decide +kernel
theorem dX6_best_132 : decode cX6_best 132 = .ok (.getfield 232, 3) := by decide +kernel
theorem dX6_best_135 : decode cX6_best 135 = .ok (.ireturn, 1) := by decide +kernel
set_option maxRecDepth 20000 in
theorem ggX6_leave_X6_isOwner : GoodIn wsX6_leave wsX6_isOwner := goodIn_r _ [5, 6, 7, 4, 8] (by decide +kernel) (by decide +kernel)
set_option maxRecDepth 20000 in
theorem gX6_leave_X6_isOwner : GoodIn wsX6_leave (va_wsS RX6 145 yX6_isOwner wsX6_isOwner) := goodIn_app (goodIn_of _ (by decide +kernel)) ggX6_leave_X6_isOwner
set_option maxRecDepth 20000 in
theorem ggX6_leave_X6_isWithin : GoodIn wsX6_leave wsX6_isWithin := goodIn_r _ [8] (by decide +kernel) (by decide +kernel)
set_option maxRecDepth 20000 in
theorem gX6_leave_X6_isWithin : GoodIn wsX6_leave (va_wsS RX6 69 yX6_isWithin wsX6_isWithin) := goodIn_app (goodIn_of _ (by decide +kernel)) ggX6_leave_X6_isWithin
set_option maxRecDepth 20000 in
theorem ggX6_leave_X6_worthByPlanWithout : GoodIn wsX6_leave wsX6_worthByPlanWithout := goodIn_r _ [12, 13, 1, 14, 15, 16, 17, 18, 19, 20, 21, 22, 23, 24, 25, 26, 27, 28, 29, 30, 31, 32, 33, 34, 35, 36, 37, 38, 39, 40, 41, 42, 43, 44, 45, 46, 47, 48, 49, 3, 4, 5, 6, 7, 8, 50, 51, 52, 53, 54, 55, 56, 57, 58, 59, 60, 61, 62, 63, 64, 65, 66, 67, 68, 69, 70, 71, 72, 73, 74, 75, 76, 77, 78, 79, 80, 81, 82, 83, 84, 85, 86, 87, 88, 89, 90, 91, 92, 93, 94, 95, 96, 97, 98, 99, 100] (by decide +kernel) (by decide +kernel)
set_option maxRecDepth 20000 in
theorem gX6_leave_X6_worthByPlanWithout : GoodIn wsX6_leave (wsV RX6 235 RX6 yX6_worthByPlanWithout wsX6_worthByPlanWithout) := goodIn_app (goodIn_of _ (by decide +kernel)) ggX6_leave_X6_worthByPlanWithout
theorem dX6_leave_0 : decode cX6_leave 0 = .ok (.iload_n 1, 1) := by decide +kernel
theorem dX6_leave_1 : decode cX6_leave 1 = .ok (.invokestatic 145, 3) := by decide +kernel
theorem dX6_leave_4 : decode cX6_leave 4 = .ok (.ifCond .eq 12, 3) := by decide +kernel
theorem dX6_leave_7 : decode cX6_leave 7 = .ok (.iload_n 2, 1) := by decide +kernel
theorem dX6_leave_8 : decode cX6_leave 8 = .ok (.iconst 0, 1) := by decide +kernel
theorem dX6_leave_9 : decode cX6_leave 9 = .ok (.iconst 1, 1) := by decide +kernel
theorem dX6_leave_10 : decode cX6_leave 10 = .ok (.invokestatic 69, 3) := by decide +kernel
theorem dX6_leave_13 : decode cX6_leave 13 = .ok (.ifCond .ne 5, 3) := by decide +kernel
theorem dX6_leave_16 : decode cX6_leave 16 = .ok (.iconst (-1), 1) := by decide +kernel
theorem dX6_leave_17 : decode cX6_leave 17 = .ok (.ireturn, 1) := by decide +kernel
theorem dX6_leave_18 : decode cX6_leave 18 = .ok (.aload_n 0, 1) := by decide +kernel
theorem dX6_leave_19 : decode cX6_leave 19 = .ok (.bipush (-4), 2) := by decide +kernel
theorem dX6_leave_21 : decode cX6_leave 21 = .ok (.iload_n 1, 1) := by decide +kernel
theorem dX6_leave_22 : decode cX6_leave 22 = .ok (.invokevirtual 235, 3) := by decide +kernel
theorem dX6_leave_25 : decode cX6_leave 25 = .ok (.istore_n 3, 1) := by decide +kernel
theorem dX6_leave_26 : decode cX6_leave 26 = .ok (.bipush (-4), 2) := by decide +kernel
theorem dX6_leave_28 : decode cX6_leave 28 = .ok (.istore 4, 2) := by decide +kernel
theorem dX6_leave_30 : decode cX6_leave 30 = .ok (.iconst 0, 1) := by decide +kernel
theorem dX6_leave_31 : decode cX6_leave 31 = .ok (.istore 5, 2) := by decide +kernel
theorem dX6_leave_33 : decode cX6_leave 33 = .ok (.iload 5, 2) := by decide +kernel
theorem dX6_leave_35 : decode cX6_leave 35 = .ok (.aload_n 0, 1) := by decide +kernel
theorem dX6_leave_36 : decode cX6_leave 36 = .ok (.getfield 12, 3) := by decide +kernel
theorem dX6_leave_39 : decode cX6_leave 39 = .ok (.getfield 109, 3) := by decide +kernel
theorem dX6_leave_42 : decode cX6_leave 42 = .ok (.if_icmp .ge 31, 3) := by decide +kernel
theorem dX6_leave_45 : decode cX6_leave 45 = .ok (.aload_n 0, 1) := by decide +kernel
theorem dX6_leave_46 : decode cX6_leave 46 = .ok (.iload 5, 2) := by decide +kernel
theorem dX6_leave_48 : decode cX6_leave 48 = .ok (.iload_n 1, 1) := by decide +kernel
theorem dX6_leave_49 : decode cX6_leave 49 = .ok (.invokevirtual 235, 3) := by decide +kernel
theorem dX6_leave_52 : decode cX6_leave 52 = .ok (.istore 6, 2) := by decide +kernel
theorem dX6_leave_54 : decode cX6_leave 54 = .ok (.iload 6, 2) := by decide +kernel
theorem dX6_leave_56 : decode cX6_leave 56 = .ok (.iload_n 3, 1) := by decide +kernel
theorem dX6_leave_57 : decode cX6_leave 57 = .ok (.if_icmp .le 10, 3) := by decide +kernel
theorem dX6_leave_60 : decode cX6_leave 60 = .ok (.iload 6, 2) := by decide +kernel
theorem dX6_leave_62 : decode cX6_leave 62 = .ok (.istore_n 3, 1) := by decide +kernel
theorem dX6_leave_63 : decode cX6_leave 63 = .ok (.iload 5, 2) := by decide +kernel
theorem dX6_leave_65 : decode cX6_leave 65 = .ok (.istore 4, 2) := by decide +kernel
theorem dX6_leave_67 : decode cX6_leave 67 = .ok (.iinc 5 1, 3) := by decide +kernel
theorem dX6_leave_70 : decode cX6_leave 70 = .ok (.goto (-37), 3) := by decide +kernel
theorem dX6_leave_73 : decode cX6_leave 73 = .ok (.iload_n 2, 1) := by decide +kernel
theorem dX6_leave_74 : decode cX6_leave 74 = .ok (.ifCond .eq 10, 3) := by decide +kernel
theorem dX6_leave_77 : decode cX6_leave 77 = .ok (.iload 4, 2) := by decide +kernel
theorem dX6_leave_79 : decode cX6_leave 79 = .ok (.bipush (-4), 2) := by decide +kernel
theorem dX6_leave_81 : decode cX6_leave 81 = .ok (.if_icmp .ne 8, 3) := by decide +kernel
theorem dX6_leave_84 : decode cX6_leave 84 = .ok (.iload 4, 2) := by decide +kernel
theorem dX6_leave_86 : decode cX6_leave 86 = .ok (.goto 4, 3) := by decide +kernel
theorem dX6_leave_89 : decode cX6_leave 89 = .ok (.iload_n 3, 1) := by decide +kernel
theorem dX6_leave_90 : decode cX6_leave 90 = .ok (.ireturn, 1) := by decide +kernel
set_option maxRecDepth 20000 in
theorem ggX6_swings_X0_hasGoose : GoodIn wsX6_swings wsX0_hasGoose := goodIn_r _ [5, 6, 7, 8, 9, 41, 42, 43, 44, 45, 46, 47, 48, 49, 50, 51, 52, 53] (by decide +kernel) (by decide +kernel)
set_option maxRecDepth 20000 in
theorem gX6_swings_X0_hasGoose_n126 : GoodIn wsX6_swings (wsX0_hasGoose) := ggX6_swings_X0_hasGoose
set_option maxRecDepth 20000 in
theorem ggX6_swings_X6_isOwner : GoodIn wsX6_swings wsX6_isOwner := goodIn_r _ [12, 13, 7, 8, 9] (by decide +kernel) (by decide +kernel)
set_option maxRecDepth 20000 in
theorem gX6_swings_X6_isOwner : GoodIn wsX6_swings (va_wsS RX6 145 yX6_isOwner wsX6_isOwner) := goodIn_app (goodIn_of _ (by decide +kernel)) ggX6_swings_X6_isOwner
set_option maxRecDepth 20000 in
theorem ggX6_swings_X0_setsSwungBy : GoodIn wsX6_swings wsX0_setsSwungBy := goodIn_r _ [16, 17, 18, 19, 3, 20, 21, 22, 23, 24, 25, 26, 27, 28, 29, 41, 42, 43, 44, 45, 46, 47, 48, 49, 50, 51, 52, 53] (by decide +kernel) (by decide +kernel)
set_option maxRecDepth 20000 in
theorem gX6_swings_X0_setsSwungBy_n238 : GoodIn wsX6_swings (wsX0_setsSwungBy) := ggX6_swings_X0_setsSwungBy
theorem dX6_swings_0 : decode cX6_swings 0 = .ok (.aload_n 0, 1) := by decide +kernel
theorem dX6_swings_1 : decode cX6_swings 1 = .ok (.getfield 12, 3) := by decide +kernel
theorem dX6_swings_4 : decode cX6_swings 4 = .ok (.iload_n 1, 1) := by decide +kernel
theorem dX6_swings_5 : decode cX6_swings 5 = .ok (.invokevirtual 126, 3) := by decide +kernel
theorem dX6_swings_8 : decode cX6_swings 8 = .ok (.ifCond .eq 22, 3) := by decide +kernel
theorem dX6_swings_11 : decode cX6_swings 11 = .ok (.iload_n 2, 1) := by decide +kernel
theorem dX6_swings_12 : decode cX6_swings 12 = .ok (.invokestatic 145, 3) := by decide +kernel
theorem dX6_swings_15 : decode cX6_swings 15 = .ok (.ifCond .eq 15, 3) := by decide +kernel
theorem dX6_swings_18 : decode cX6_swings 18 = .ok (.aload_n 0, 1) := by decide +kernel
theorem dX6_swings_19 : decode cX6_swings 19 = .ok (.getfield 12, 3) := by decide +kernel
theorem dX6_swings_22 : decode cX6_swings 22 = .ok (.iload_n 1, 1) := by decide +kernel
theorem dX6_swings_23 : decode cX6_swings 23 = .ok (.iload_n 2, 1) := by decide +kernel
theorem dX6_swings_24 : decode cX6_swings 24 = .ok (.invokevirtual 238, 3) := by decide +kernel
theorem dX6_swings_27 : decode cX6_swings 27 = .ok (.goto 4, 3) := by decide +kernel
theorem dX6_swings_30 : decode cX6_swings 30 = .ok (.iconst (-1), 1) := by decide +kernel
theorem dX6_swings_31 : decode cX6_swings 31 = .ok (.ireturn, 1) := by decide +kernel
set_option maxRecDepth 20000 in
theorem ggX6_power_X0_hasGoose : GoodIn wsX6_power wsX0_hasGoose := goodIn_r _ [10, 11, 12, 13, 14, 55, 56, 57, 58, 59, 60, 61, 62, 63, 64, 65, 66, 67] (by decide +kernel) (by decide +kernel)
set_option maxRecDepth 20000 in
theorem gX6_power_X0_hasGoose_n126 : GoodIn wsX6_power (wsX0_hasGoose) := ggX6_power_X0_hasGoose
set_option maxRecDepth 20000 in
theorem ggX6_power_X6_isOwner : GoodIn wsX6_power wsX6_isOwner := goodIn_r _ [17, 18, 12, 13, 14] (by decide +kernel) (by decide +kernel)
set_option maxRecDepth 20000 in
theorem gX6_power_X6_isOwner : GoodIn wsX6_power (va_wsS RX6 145 yX6_isOwner wsX6_isOwner) := goodIn_app (goodIn_of _ (by decide +kernel)) ggX6_power_X6_isOwner
set_option maxRecDepth 20000 in
theorem ggX6_power_X6_isWithin : GoodIn wsX6_power wsX6_isWithin := goodIn_r _ [14] (by decide +kernel) (by decide +kernel)
set_option maxRecDepth 20000 in
theorem gX6_power_X6_isWithin : GoodIn wsX6_power (va_wsS RX6 69 yX6_isWithin wsX6_isWithin) := goodIn_app (goodIn_of _ (by decide +kernel)) ggX6_power_X6_isWithin
set_option maxRecDepth 20000 in
theorem ggX6_power_X0_setsSwungBy : GoodIn wsX6_power wsX0_setsSwungBy := goodIn_r _ [21, 22, 23, 24, 8, 25, 26, 27, 28, 29, 30, 31, 32, 33, 34, 55, 56, 57, 58, 59, 60, 61, 62, 63, 64, 65, 66, 67] (by decide +kernel) (by decide +kernel)
set_option maxRecDepth 20000 in
theorem gX6_power_X0_setsSwungBy_n238 : GoodIn wsX6_power (wsX0_setsSwungBy) := ggX6_power_X0_setsSwungBy
set_option maxRecDepth 20000 in
theorem ggX6_power_X6_partOfFraction : GoodIn wsX6_power wsX6_partOfFraction := goodIn_r _ [37, 38, 39, 5, 40, 41, 42, 13, 43] (by decide +kernel) (by decide +kernel)
set_option maxRecDepth 20000 in
theorem gX6_power_X6_partOfFraction : GoodIn wsX6_power (va_wsS RX6 248 yX6_partOfFraction wsX6_partOfFraction) := goodIn_app (goodIn_of _ (by decide +kernel)) ggX6_power_X6_partOfFraction
theorem dX6_power_0 : decode cX6_power 0 = .ok (.aload_n 0, 1) := by decide +kernel
theorem dX6_power_1 : decode cX6_power 1 = .ok (.getfield 12, 3) := by decide +kernel
theorem dX6_power_4 : decode cX6_power 4 = .ok (.iload_n 1, 1) := by decide +kernel
theorem dX6_power_5 : decode cX6_power 5 = .ok (.invokevirtual 126, 3) := by decide +kernel
theorem dX6_power_8 : decode cX6_power 8 = .ok (.ifCond .eq 19, 3) := by decide +kernel
theorem dX6_power_11 : decode cX6_power 11 = .ok (.iload_n 2, 1) := by decide +kernel
theorem dX6_power_12 : decode cX6_power 12 = .ok (.invokestatic 145, 3) := by decide +kernel
theorem dX6_power_15 : decode cX6_power 15 = .ok (.ifCond .eq 12, 3) := by decide +kernel
theorem dX6_power_18 : decode cX6_power 18 = .ok (.iload_n 3, 1) := by decide +kernel
theorem dX6_power_19 : decode cX6_power 19 = .ok (.iconst 0, 1) := by decide +kernel
theorem dX6_power_20 : decode cX6_power 20 = .ok (.iconst 1, 1) := by decide +kernel
theorem dX6_power_21 : decode cX6_power 21 = .ok (.invokestatic 69, 3) := by decide +kernel
theorem dX6_power_24 : decode cX6_power 24 = .ok (.ifCond .ne 7, 3) := by decide +kernel
theorem dX6_power_27 : decode cX6_power 27 = .ok (.ldc2_w 241, 3) := by decide +kernel
theorem dX6_power_30 : decode cX6_power 30 = .ok (.lreturn, 1) := by decide +kernel
theorem dX6_power_31 : decode cX6_power 31 = .ok (.iconst 0, 1) := by decide +kernel
theorem dX6_power_32 : decode cX6_power 32 = .ok (.istore 4, 2) := by decide +kernel
theorem dX6_power_34 : decode cX6_power 34 = .ok (.iconst 0, 1) := by decide +kernel
theorem dX6_power_35 : decode cX6_power 35 = .ok (.istore 5, 2) := by decide +kernel
theorem dX6_power_37 : decode cX6_power 37 = .ok (.iload 5, 2) := by decide +kernel
theorem dX6_power_39 : decode cX6_power 39 = .ok (.iconst 5, 1) := by decide +kernel
theorem dX6_power_40 : decode cX6_power 40 = .ok (.if_icmp .ge 24, 3) := by decide +kernel
theorem dX6_power_43 : decode cX6_power 43 = .ok (.iload 4, 2) := by decide +kernel
theorem dX6_power_45 : decode cX6_power 45 = .ok (.aload_n 0, 1) := by decide +kernel
theorem dX6_power_46 : decode cX6_power 46 = .ok (.getfield 12, 3) := by decide +kernel
theorem dX6_power_49 : decode cX6_power 49 = .ok (.iload_n 1, 1) := by decide +kernel
theorem dX6_power_50 : decode cX6_power 50 = .ok (.iload 5, 2) := by decide +kernel
theorem dX6_power_52 : decode cX6_power 52 = .ok (.invokevirtual 238, 3) := by decide +kernel
theorem dX6_power_55 : decode cX6_power 55 = .ok (.iadd, 1) := by decide +kernel
theorem dX6_power_56 : decode cX6_power 56 = .ok (.istore 4, 2) := by decide +kernel
theorem dX6_power_58 : decode cX6_power 58 = .ok (.iinc 5 1, 3) := by decide +kernel
theorem dX6_power_61 : decode cX6_power 61 = .ok (.goto (-24), 3) := by decide +kernel
theorem dX6_power_64 : decode cX6_power 64 = .ok (.aload_n 0, 1) := by decide +kernel
theorem dX6_power_65 : decode cX6_power 65 = .ok (.getfield 12, 3) := by decide +kernel
theorem dX6_power_68 : decode cX6_power 68 = .ok (.iload_n 1, 1) := by decide +kernel
theorem dX6_power_69 : decode cX6_power 69 = .ok (.iload_n 2, 1) := by decide +kernel
theorem dX6_power_70 : decode cX6_power 70 = .ok (.invokevirtual 238, 3) := by decide +kernel
theorem dX6_power_73 : decode cX6_power 73 = .ok (.i2l, 1) := by decide +kernel
theorem dX6_power_74 : decode cX6_power 74 = .ok (.iconst 1, 1) := by decide +kernel
theorem dX6_power_75 : decode cX6_power 75 = .ok (.iload 4, 2) := by decide +kernel
theorem dX6_power_77 : decode cX6_power 77 = .ok (.invokestatic 243, 3) := by decide +kernel
theorem dX6_power_80 : decode cX6_power 80 = .ok (.i2l, 1) := by decide +kernel
theorem dX6_power_81 : decode cX6_power 81 = .ok (.iload_n 3, 1) := by decide +kernel
theorem dX6_power_82 : decode cX6_power 82 = .ok (.invokestatic 248, 3) := by decide +kernel
theorem dX6_power_85 : decode cX6_power 85 = .ok (.lreturn, 1) := by decide +kernel
set_option maxRecDepth 20000 in
theorem ggX6_reign_X0_hasGoose : GoodIn wsX6_reign wsX0_hasGoose := goodIn_r _ [5, 6, 7, 8, 9, 33, 34, 35, 36, 37, 38, 39, 40, 41, 42, 43, 44, 45] (by decide +kernel) (by decide +kernel)
set_option maxRecDepth 20000 in
theorem gX6_reign_X0_hasGoose_n126 : GoodIn wsX6_reign (wsX0_hasGoose) := ggX6_reign_X0_hasGoose
set_option maxRecDepth 20000 in
theorem ggX6_reign_X6_isOwner : GoodIn wsX6_reign wsX6_isOwner := goodIn_r _ [12, 13, 7, 8, 9] (by decide +kernel) (by decide +kernel)
set_option maxRecDepth 20000 in
theorem gX6_reign_X6_isOwner : GoodIn wsX6_reign (va_wsS RX6 145 yX6_isOwner wsX6_isOwner) := goodIn_app (goodIn_of _ (by decide +kernel)) ggX6_reign_X6_isOwner
set_option maxRecDepth 20000 in
theorem ggX6_reign_X0_feathersOf : GoodIn wsX6_reign wsX0_feathersOf := goodIn_r _ [16, 17, 18, 19, 3, 20, 21, 33, 34, 35, 36, 37, 38, 39, 40, 41, 42, 43, 44, 45] (by decide +kernel) (by decide +kernel)
set_option maxRecDepth 20000 in
theorem gX6_reign_X0_feathersOf_n138 : GoodIn wsX6_reign (wsX0_feathersOf) := ggX6_reign_X0_feathersOf
set_option maxRecDepth 20000 in
theorem ggX6_reign_X0_held : GoodIn wsX6_reign wsX0_held := goodIn_r _ [20, 21, 33, 34, 35, 36, 37, 38, 39, 40, 41, 42, 43, 44, 45] (by decide +kernel) (by decide +kernel)
set_option maxRecDepth 20000 in
theorem gX6_reign_X0_held_n152 : GoodIn wsX6_reign (wsX0_held) := ggX6_reign_X0_held
theorem dX6_reign_0 : decode cX6_reign 0 = .ok (.aload_n 0, 1) := by decide +kernel
theorem dX6_reign_1 : decode cX6_reign 1 = .ok (.getfield 12, 3) := by decide +kernel
theorem dX6_reign_4 : decode cX6_reign 4 = .ok (.iload_n 1, 1) := by decide +kernel
theorem dX6_reign_5 : decode cX6_reign 5 = .ok (.invokevirtual 126, 3) := by decide +kernel
theorem dX6_reign_8 : decode cX6_reign 8 = .ok (.ifCond .eq 10, 3) := by decide +kernel
theorem dX6_reign_11 : decode cX6_reign 11 = .ok (.iload_n 2, 1) := by decide +kernel
theorem dX6_reign_12 : decode cX6_reign 12 = .ok (.invokestatic 145, 3) := by decide +kernel
theorem dX6_reign_15 : decode cX6_reign 15 = .ok (.ifCond .ne 5, 3) := by decide +kernel
theorem dX6_reign_18 : decode cX6_reign 18 = .ok (.iconst (-1), 1) := by decide +kernel
theorem dX6_reign_19 : decode cX6_reign 19 = .ok (.ireturn, 1) := by decide +kernel
theorem dX6_reign_20 : decode cX6_reign 20 = .ok (.aload_n 0, 1) := by decide +kernel
theorem dX6_reign_21 : decode cX6_reign 21 = .ok (.getfield 12, 3) := by decide +kernel
theorem dX6_reign_24 : decode cX6_reign 24 = .ok (.iload_n 1, 1) := by decide +kernel
theorem dX6_reign_25 : decode cX6_reign 25 = .ok (.invokevirtual 138, 3) := by decide +kernel
theorem dX6_reign_28 : decode cX6_reign 28 = .ok (.aload_n 0, 1) := by decide +kernel
theorem dX6_reign_29 : decode cX6_reign 29 = .ok (.getfield 12, 3) := by decide +kernel
theorem dX6_reign_32 : decode cX6_reign 32 = .ok (.iload_n 1, 1) := by decide +kernel
theorem dX6_reign_33 : decode cX6_reign 33 = .ok (.iload_n 2, 1) := by decide +kernel
theorem dX6_reign_34 : decode cX6_reign 34 = .ok (.invokevirtual 152, 3) := by decide +kernel
theorem dX6_reign_37 : decode cX6_reign 37 = .ok (.isub, 1) := by decide +kernel
theorem dX6_reign_38 : decode cX6_reign 38 = .ok (.iconst 1, 1) := by decide +kernel
theorem dX6_reign_39 : decode cX6_reign 39 = .ok (.iadd, 1) := by decide +kernel
theorem dX6_reign_40 : decode cX6_reign 40 = .ok (.istore_n 3, 1) := by decide +kernel
theorem dX6_reign_41 : decode cX6_reign 41 = .ok (.iload_n 3, 1) := by decide +kernel
theorem dX6_reign_42 : decode cX6_reign 42 = .ok (.bipush 99, 2) := by decide +kernel
theorem dX6_reign_44 : decode cX6_reign 44 = .ok (.if_icmp .gt 7, 3) := by decide +kernel
theorem dX6_reign_47 : decode cX6_reign 47 = .ok (.iload_n 3, 1) := by decide +kernel
theorem dX6_reign_48 : decode cX6_reign 48 = .ok (.goto 5, 3) := by decide +kernel
theorem dX6_reign_51 : decode cX6_reign 51 = .ok (.bipush (-4), 2) := by decide +kernel
theorem dX6_reign_53 : decode cX6_reign 53 = .ok (.ireturn, 1) := by decide +kernel
set_option maxRecDepth 20000 in
theorem ggX6_luck_X6_areOdds : GoodIn wsX6_luck wsX6_areOdds := goodIn_r _ [7, 8, 9, 6, 10] (by decide +kernel) (by decide +kernel)
set_option maxRecDepth 20000 in
theorem gX6_luck_X6_areOdds : GoodIn wsX6_luck (va_wsS RX6 252 yX6_areOdds wsX6_areOdds) := goodIn_app (goodIn_of _ (by decide +kernel)) ggX6_luck_X6_areOdds
set_option maxRecDepth 20000 in
theorem ggX6_luck_X0_hasGoose : GoodIn wsX6_luck wsX0_hasGoose := goodIn_r _ [14, 15, 9, 6, 10, 89, 90, 91, 92, 93, 94, 95, 96, 97, 98, 99, 100, 101] (by decide +kernel) (by decide +kernel)
set_option maxRecDepth 20000 in
theorem gX6_luck_X0_hasGoose_n126 : GoodIn wsX6_luck (wsX0_hasGoose) := ggX6_luck_X0_hasGoose
set_option maxRecDepth 20000 in
theorem ggX6_luck_X6_isOwner : GoodIn wsX6_luck wsX6_isOwner := goodIn_r _ [18, 8, 9, 6, 10] (by decide +kernel) (by decide +kernel)
set_option maxRecDepth 20000 in
theorem gX6_luck_X6_isOwner : GoodIn wsX6_luck (va_wsS RX6 145 yX6_isOwner wsX6_isOwner) := goodIn_app (goodIn_of _ (by decide +kernel)) ggX6_luck_X6_isOwner
set_option maxRecDepth 20000 in
theorem ggX6_luck_X6_isWithin : GoodIn wsX6_luck wsX6_isWithin := goodIn_r _ [10] (by decide +kernel) (by decide +kernel)
set_option maxRecDepth 20000 in
theorem gX6_luck_X6_isWithin : GoodIn wsX6_luck (va_wsS RX6 69 yX6_isWithin wsX6_isWithin) := goodIn_app (goodIn_of _ (by decide +kernel)) ggX6_luck_X6_isWithin
set_option maxRecDepth 20000 in
theorem ggX6_luck_X0_copyFrom : GoodIn wsX6_luck wsX0_copyFrom := goodIn_r _ [21, 15, 22, 23, 24, 25, 26, 27, 28, 29, 30, 31, 32, 33, 34, 35, 36, 37, 89, 90, 91, 92, 93, 94, 95, 96, 97, 98, 99, 100, 101] (by decide +kernel) (by decide +kernel)
set_option maxRecDepth 20000 in
theorem gX6_luck_X0_copyFrom_n93 : GoodIn wsX6_luck (wsX0_copyFrom) := ggX6_luck_X0_copyFrom
set_option maxRecDepth 20000 in
theorem ggX6_luck_X0_eggOwner : GoodIn wsX6_luck wsX0_eggOwner := goodIn_r _ [40, 29, 41, 42, 43, 12, 44, 31, 89, 90, 91, 92, 93, 94, 95, 96, 97, 98, 99, 100, 101] (by decide +kernel) (by decide +kernel)
set_option maxRecDepth 20000 in
theorem gX6_luck_X0_eggOwner_n142 : GoodIn wsX6_luck (wsX0_eggOwner) := ggX6_luck_X0_eggOwner
set_option maxRecDepth 20000 in
theorem ggX6_luck_X6_waysToMoult : GoodIn wsX6_luck wsX6_waysToMoult := goodIn_r _ [47, 48, 49, 6, 50] (by decide +kernel) (by decide +kernel)
set_option maxRecDepth 20000 in
theorem gX6_luck_X6_waysToMoult : GoodIn wsX6_luck (va_wsS RX6 256 yX6_waysToMoult wsX6_waysToMoult) := goodIn_app (goodIn_of _ (by decide +kernel)) ggX6_luck_X6_waysToMoult
set_option maxRecDepth 20000 in
theorem ggX6_luck_X0_passWeek : GoodIn wsX6_luck wsX0_passWeek := goodIn_r _ [53, 15, 33, 22, 54, 38, 39, 12, 40, 29, 41, 42, 43, 44, 31, 55, 56, 57, 58, 24, 59, 60, 61, 62, 63, 64, 65, 66, 67, 68, 89, 90, 91, 92, 93, 94, 95, 96, 97, 98, 99, 100, 101] (by decide +kernel) (by decide +kernel)
set_option maxRecDepth 20000 in
theorem gX6_luck_X0_passWeek_n207 : GoodIn wsX6_luck (wsX0_passWeek) := ggX6_luck_X0_passWeek
set_option maxRecDepth 20000 in
theorem ggX6_luck_X6_raised : GoodIn wsX6_luck wsX6_raised := goodIn_r _ [50] (by decide +kernel) (by decide +kernel)
set_option maxRecDepth 20000 in
theorem gX6_luck_X6_raised : GoodIn wsX6_luck (va_wsS RX6 260 yX6_raised wsX6_raised) := goodIn_app (goodIn_of _ (by decide +kernel)) ggX6_luck_X6_raised
set_option maxRecDepth 20000 in
theorem ggX6_luck_X6_partOfFraction : GoodIn wsX6_luck wsX6_partOfFraction := goodIn_r _ [71, 72, 73, 61, 74, 75, 76, 6, 77] (by decide +kernel) (by decide +kernel)
set_option maxRecDepth 20000 in
theorem gX6_luck_X6_partOfFraction : GoodIn wsX6_luck (va_wsS RX6 248 yX6_partOfFraction wsX6_partOfFraction) := goodIn_app (goodIn_of _ (by decide +kernel)) ggX6_luck_X6_partOfFraction
theorem dX6_luck_0 : decode cX6_luck 0 = .ok (.iload_n 1, 1) := by decide +kernel
theorem dX6_luck_1 : decode cX6_luck 1 = .ok (.iload 4, 2) := by decide +kernel
theorem dX6_luck_3 : decode cX6_luck 3 = .ok (.invokestatic 252, 3) := by decide +kernel
theorem dX6_luck_6 : decode cX6_luck 6 = .ok (.ifCond .eq 31, 3) := by decide +kernel
theorem dX6_luck_9 : decode cX6_luck 9 = .ok (.aload_n 0, 1) := by decide +kernel
theorem dX6_luck_10 : decode cX6_luck 10 = .ok (.getfield 12, 3) := by decide +kernel
theorem dX6_luck_13 : decode cX6_luck 13 = .ok (.iload_n 2, 1) := by decide +kernel
theorem dX6_luck_14 : decode cX6_luck 14 = .ok (.invokevirtual 126, 3) := by decide +kernel
theorem dX6_luck_17 : decode cX6_luck 17 = .ok (.ifCond .eq 20, 3) := by decide +kernel
theorem dX6_luck_20 : decode cX6_luck 20 = .ok (.iload_n 3, 1) := by decide +kernel
theorem dX6_luck_21 : decode cX6_luck 21 = .ok (.invokestatic 145, 3) := by decide +kernel
theorem dX6_luck_24 : decode cX6_luck 24 = .ok (.ifCond .eq 13, 3) := by decide +kernel
theorem dX6_luck_27 : decode cX6_luck 27 = .ok (.iload 5, 2) := by decide +kernel
theorem dX6_luck_29 : decode cX6_luck 29 = .ok (.iconst 0, 1) := by decide +kernel
theorem dX6_luck_30 : decode cX6_luck 30 = .ok (.iconst 1, 1) := by decide +kernel
theorem dX6_luck_31 : decode cX6_luck 31 = .ok (.invokestatic 69, 3) := by decide +kernel
theorem dX6_luck_34 : decode cX6_luck 34 = .ok (.ifCond .ne 7, 3) := by decide +kernel
theorem dX6_luck_37 : decode cX6_luck 37 = .ok (.ldc2_w 241, 3) := by decide +kernel
theorem dX6_luck_40 : decode cX6_luck 40 = .ok (.lreturn, 1) := by decide +kernel
theorem dX6_luck_41 : decode cX6_luck 41 = .ok (.aload_n 0, 1) := by decide +kernel
theorem dX6_luck_42 : decode cX6_luck 42 = .ok (.getfield 16, 3) := by decide +kernel
theorem dX6_luck_45 : decode cX6_luck 45 = .ok (.aload_n 0, 1) := by decide +kernel
theorem dX6_luck_46 : decode cX6_luck 46 = .ok (.getfield 12, 3) := by decide +kernel
theorem dX6_luck_49 : decode cX6_luck 49 = .ok (.invokevirtual 93, 3) := by decide +kernel
theorem dX6_luck_52 : decode cX6_luck 52 = .ok (.lconst 0, 1) := by decide +kernel
theorem dX6_luck_53 : decode cX6_luck 53 = .ok (.lstore 6, 2) := by decide +kernel
theorem dX6_luck_55 : decode cX6_luck 55 = .ok (.iconst 0, 1) := by decide +kernel
theorem dX6_luck_56 : decode cX6_luck 56 = .ok (.istore 8, 2) := by decide +kernel
theorem dX6_luck_58 : decode cX6_luck 58 = .ok (.iload 8, 2) := by decide +kernel
theorem dX6_luck_60 : decode cX6_luck 60 = .ok (.iload 4, 2) := by decide +kernel
theorem dX6_luck_62 : decode cX6_luck 62 = .ok (.if_icmp .gt 42, 3) := by decide +kernel
theorem dX6_luck_65 : decode cX6_luck 65 = .ok (.aload_n 0, 1) := by decide +kernel
theorem dX6_luck_66 : decode cX6_luck 66 = .ok (.getfield 16, 3) := by decide +kernel
theorem dX6_luck_69 : decode cX6_luck 69 = .ok (.iload_n 2, 1) := by decide +kernel
theorem dX6_luck_70 : decode cX6_luck 70 = .ok (.invokevirtual 142, 3) := by decide +kernel
theorem dX6_luck_73 : decode cX6_luck 73 = .ok (.iload_n 3, 1) := by decide +kernel
theorem dX6_luck_74 : decode cX6_luck 74 = .ok (.if_icmp .ne 16, 3) := by decide +kernel
theorem dX6_luck_77 : decode cX6_luck 77 = .ok (.lload 6, 2) := by decide +kernel
theorem dX6_luck_79 : decode cX6_luck 79 = .ok (.iload_n 1, 1) := by decide +kernel
theorem dX6_luck_80 : decode cX6_luck 80 = .ok (.iload 4, 2) := by decide +kernel
theorem dX6_luck_82 : decode cX6_luck 82 = .ok (.iload 8, 2) := by decide +kernel
theorem dX6_luck_84 : decode cX6_luck 84 = .ok (.invokestatic 256, 3) := by decide +kernel
theorem dX6_luck_87 : decode cX6_luck 87 = .ok (.ladd, 1) := by decide +kernel
theorem dX6_luck_88 : decode cX6_luck 88 = .ok (.lstore 6, 2) := by decide +kernel
theorem dX6_luck_90 : decode cX6_luck 90 = .ok (.aload_n 0, 1) := by decide +kernel
theorem dX6_luck_91 : decode cX6_luck 91 = .ok (.getfield 16, 3) := by decide +kernel
theorem dX6_luck_94 : decode cX6_luck 94 = .ok (.invokevirtual 207, 3) := by decide +kernel
theorem dX6_luck_97 : decode cX6_luck 97 = .ok (.pop, 1) := by decide +kernel
theorem dX6_luck_98 : decode cX6_luck 98 = .ok (.iinc 8 1, 3) := by decide +kernel
theorem dX6_luck_101 : decode cX6_luck 101 = .ok (.goto (-43), 3) := by decide +kernel
theorem dX6_luck_104 : decode cX6_luck 104 = .ok (.lload 6, 2) := by decide +kernel
theorem dX6_luck_106 : decode cX6_luck 106 = .ok (.bipush 10, 2) := by decide +kernel
theorem dX6_luck_108 : decode cX6_luck 108 = .ok (.iload 4, 2) := by decide +kernel
theorem dX6_luck_110 : decode cX6_luck 110 = .ok (.invokestatic 260, 3) := by decide +kernel
theorem dX6_luck_113 : decode cX6_luck 113 = .ok (.iload 5, 2) := by decide +kernel
theorem dX6_luck_115 : decode cX6_luck 115 = .ok (.invokestatic 248, 3) := by decide +kernel
theorem dX6_luck_118 : decode cX6_luck 118 = .ok (.lreturn, 1) := by decide +kernel
set_option maxRecDepth 20000 in
theorem ggX6_mean_X6_areOdds : GoodIn wsX6_mean wsX6_areOdds := goodIn_r _ [7, 8, 9, 6, 10] (by decide +kernel) (by decide +kernel)
set_option maxRecDepth 20000 in
theorem gX6_mean_X6_areOdds : GoodIn wsX6_mean (va_wsS RX6 252 yX6_areOdds wsX6_areOdds) := goodIn_app (goodIn_of _ (by decide +kernel)) ggX6_mean_X6_areOdds
set_option maxRecDepth 20000 in
theorem ggX6_mean_X0_hasGoose : GoodIn wsX6_mean wsX0_hasGoose := goodIn_r _ [14, 15, 9, 6, 10, 89, 90, 91, 92, 93, 94, 95, 96, 97, 98, 99, 100, 101] (by decide +kernel) (by decide +kernel)
set_option maxRecDepth 20000 in
theorem gX6_mean_X0_hasGoose_n126 : GoodIn wsX6_mean (wsX0_hasGoose) := ggX6_mean_X0_hasGoose
set_option maxRecDepth 20000 in
theorem ggX6_mean_X6_isWithin : GoodIn wsX6_mean wsX6_isWithin := goodIn_r _ [10] (by decide +kernel) (by decide +kernel)
set_option maxRecDepth 20000 in
theorem gX6_mean_X6_isWithin : GoodIn wsX6_mean (va_wsS RX6 69 yX6_isWithin wsX6_isWithin) := goodIn_app (goodIn_of _ (by decide +kernel)) ggX6_mean_X6_isWithin
set_option maxRecDepth 20000 in
theorem ggX6_mean_X0_copyFrom : GoodIn wsX6_mean wsX0_copyFrom := goodIn_r _ [18, 15, 19, 20, 21, 22, 23, 24, 25, 26, 27, 28, 29, 30, 31, 32, 33, 34, 89, 90, 91, 92, 93, 94, 95, 96, 97, 98, 99, 100, 101] (by decide +kernel) (by decide +kernel)
set_option maxRecDepth 20000 in
theorem gX6_mean_X0_copyFrom_n93 : GoodIn wsX6_mean (wsX0_copyFrom) := ggX6_mean_X0_copyFrom
set_option maxRecDepth 20000 in
theorem ggX6_mean_X6_waysToMoult : GoodIn wsX6_mean wsX6_waysToMoult := goodIn_r _ [37, 38, 39, 6, 40] (by decide +kernel) (by decide +kernel)
set_option maxRecDepth 20000 in
theorem gX6_mean_X6_waysToMoult : GoodIn wsX6_mean (va_wsS RX6 256 yX6_waysToMoult wsX6_waysToMoult) := goodIn_app (goodIn_of _ (by decide +kernel)) ggX6_mean_X6_waysToMoult
set_option maxRecDepth 20000 in
theorem ggX6_mean_X0_feathersOf : GoodIn wsX6_mean wsX0_feathersOf := goodIn_r _ [43, 44, 45, 46, 12, 47, 28, 89, 90, 91, 92, 93, 94, 95, 96, 97, 98, 99, 100, 101] (by decide +kernel) (by decide +kernel)
set_option maxRecDepth 20000 in
theorem gX6_mean_X0_feathersOf_n138 : GoodIn wsX6_mean (wsX0_feathersOf) := ggX6_mean_X0_feathersOf
set_option maxRecDepth 20000 in
theorem ggX6_mean_X0_passWeek : GoodIn wsX6_mean wsX0_passWeek := goodIn_r _ [50, 15, 30, 19, 51, 52, 53, 12, 54, 26, 44, 45, 46, 47, 28, 55, 56, 57, 58, 21, 59, 60, 61, 62, 63, 64, 65, 66, 67, 68, 89, 90, 91, 92, 93, 94, 95, 96, 97, 98, 99, 100, 101] (by decide +kernel) (by decide +kernel)
set_option maxRecDepth 20000 in
theorem gX6_mean_X0_passWeek_n207 : GoodIn wsX6_mean (wsX0_passWeek) := ggX6_mean_X0_passWeek
set_option maxRecDepth 20000 in
theorem ggX6_mean_X6_raised : GoodIn wsX6_mean wsX6_raised := goodIn_r _ [40] (by decide +kernel) (by decide +kernel)
set_option maxRecDepth 20000 in
theorem gX6_mean_X6_raised : GoodIn wsX6_mean (va_wsS RX6 260 yX6_raised wsX6_raised) := goodIn_app (goodIn_of _ (by decide +kernel)) ggX6_mean_X6_raised
set_option maxRecDepth 20000 in
theorem ggX6_mean_X6_partOfFraction : GoodIn wsX6_mean wsX6_partOfFraction := goodIn_r _ [71, 72, 73, 61, 74, 75, 76, 6, 77] (by decide +kernel) (by decide +kernel)
set_option maxRecDepth 20000 in
theorem gX6_mean_X6_partOfFraction : GoodIn wsX6_mean (va_wsS RX6 248 yX6_partOfFraction wsX6_partOfFraction) := goodIn_app (goodIn_of _ (by decide +kernel)) ggX6_mean_X6_partOfFraction
theorem dX6_mean_0 : decode cX6_mean 0 = .ok (.iload_n 1, 1) := by decide +kernel
theorem dX6_mean_1 : decode cX6_mean 1 = .ok (.iload_n 3, 1) := by decide +kernel
theorem dX6_mean_2 : decode cX6_mean 2 = .ok (.invokestatic 252, 3) := by decide +kernel
theorem dX6_mean_5 : decode cX6_mean 5 = .ok (.ifCond .eq 24, 3) := by decide +kernel
theorem dX6_mean_8 : decode cX6_mean 8 = .ok (.aload_n 0, 1) := by decide +kernel
theorem dX6_mean_9 : decode cX6_mean 9 = .ok (.getfield 12, 3) := by decide +kernel
theorem dX6_mean_12 : decode cX6_mean 12 = .ok (.iload_n 2, 1) := by decide +kernel
theorem dX6_mean_13 : decode cX6_mean 13 = .ok (.invokevirtual 126, 3) := by decide +kernel
theorem dX6_mean_16 : decode cX6_mean 16 = .ok (.ifCond .eq 13, 3) := by decide +kernel
theorem dX6_mean_19 : decode cX6_mean 19 = .ok (.iload 4, 2) := by decide +kernel
theorem dX6_mean_21 : decode cX6_mean 21 = .ok (.iconst 0, 1) := by decide +kernel
theorem dX6_mean_22 : decode cX6_mean 22 = .ok (.iconst 1, 1) := by decide +kernel
theorem dX6_mean_23 : decode cX6_mean 23 = .ok (.invokestatic 69, 3) := by decide +kernel
theorem dX6_mean_26 : decode cX6_mean 26 = .ok (.ifCond .ne 7, 3) := by decide +kernel
theorem dX6_mean_29 : decode cX6_mean 29 = .ok (.ldc2_w 241, 3) := by decide +kernel
theorem dX6_mean_32 : decode cX6_mean 32 = .ok (.lreturn, 1) := by decide +kernel
theorem dX6_mean_33 : decode cX6_mean 33 = .ok (.aload_n 0, 1) := by decide +kernel
theorem dX6_mean_34 : decode cX6_mean 34 = .ok (.getfield 16, 3) := by decide +kernel
theorem dX6_mean_37 : decode cX6_mean 37 = .ok (.aload_n 0, 1) := by decide +kernel
theorem dX6_mean_38 : decode cX6_mean 38 = .ok (.getfield 12, 3) := by decide +kernel
theorem dX6_mean_41 : decode cX6_mean 41 = .ok (.invokevirtual 93, 3) := by decide +kernel
theorem dX6_mean_44 : decode cX6_mean 44 = .ok (.lconst 0, 1) := by decide +kernel
theorem dX6_mean_45 : decode cX6_mean 45 = .ok (.lstore 5, 2) := by decide +kernel
theorem dX6_mean_47 : decode cX6_mean 47 = .ok (.iconst 0, 1) := by decide +kernel
theorem dX6_mean_48 : decode cX6_mean 48 = .ok (.istore 7, 2) := by decide +kernel
theorem dX6_mean_50 : decode cX6_mean 50 = .ok (.iload 7, 2) := by decide +kernel
theorem dX6_mean_52 : decode cX6_mean 52 = .ok (.iload_n 3, 1) := by decide +kernel
theorem dX6_mean_53 : decode cX6_mean 53 = .ok (.if_icmp .gt 39, 3) := by decide +kernel
theorem dX6_mean_56 : decode cX6_mean 56 = .ok (.lload 5, 2) := by decide +kernel
theorem dX6_mean_58 : decode cX6_mean 58 = .ok (.iload_n 1, 1) := by decide +kernel
theorem dX6_mean_59 : decode cX6_mean 59 = .ok (.iload_n 3, 1) := by decide +kernel
theorem dX6_mean_60 : decode cX6_mean 60 = .ok (.iload 7, 2) := by decide +kernel
theorem dX6_mean_62 : decode cX6_mean 62 = .ok (.invokestatic 256, 3) := by decide +kernel
theorem dX6_mean_65 : decode cX6_mean 65 = .ok (.aload_n 0, 1) := by decide +kernel
theorem dX6_mean_66 : decode cX6_mean 66 = .ok (.getfield 16, 3) := by decide +kernel
theorem dX6_mean_69 : decode cX6_mean 69 = .ok (.iload_n 2, 1) := by decide +kernel
theorem dX6_mean_70 : decode cX6_mean 70 = .ok (.invokevirtual 138, 3) := by decide +kernel
theorem dX6_mean_73 : decode cX6_mean 73 = .ok (.i2l, 1) := by decide +kernel
theorem dX6_mean_74 : decode cX6_mean 74 = .ok (.lmul, 1) := by decide +kernel
theorem dX6_mean_75 : decode cX6_mean 75 = .ok (.ladd, 1) := by decide +kernel
theorem dX6_mean_76 : decode cX6_mean 76 = .ok (.lstore 5, 2) := by decide +kernel
theorem dX6_mean_78 : decode cX6_mean 78 = .ok (.aload_n 0, 1) := by decide +kernel
theorem dX6_mean_79 : decode cX6_mean 79 = .ok (.getfield 16, 3) := by decide +kernel
theorem dX6_mean_82 : decode cX6_mean 82 = .ok (.invokevirtual 207, 3) := by decide +kernel
theorem dX6_mean_85 : decode cX6_mean 85 = .ok (.pop, 1) := by decide +kernel
theorem dX6_mean_86 : decode cX6_mean 86 = .ok (.iinc 7 1, 3) := by decide +kernel
theorem dX6_mean_89 : decode cX6_mean 89 = .ok (.goto (-39), 3) := by decide +kernel
theorem dX6_mean_92 : decode cX6_mean 92 = .ok (.lload 5, 2) := by decide +kernel
theorem dX6_mean_94 : decode cX6_mean 94 = .ok (.bipush 10, 2) := by decide +kernel
theorem dX6_mean_96 : decode cX6_mean 96 = .ok (.iload_n 3, 1) := by decide +kernel
theorem dX6_mean_97 : decode cX6_mean 97 = .ok (.invokestatic 260, 3) := by decide +kernel
theorem dX6_mean_100 : decode cX6_mean 100 = .ok (.iload 4, 2) := by decide +kernel
theorem dX6_mean_102 : decode cX6_mean 102 = .ok (.invokestatic 248, 3) := by decide +kernel
theorem dX6_mean_105 : decode cX6_mean 105 = .ok (.lreturn, 1) := by decide +kernel
set_option maxRecDepth 20000 in
theorem ggX6_see_X0_hasGoose : GoodIn wsX6_see wsX0_hasGoose := goodIn_r _ [6, 7, 8, 9, 10, 40, 41, 42, 43, 44, 45, 46, 47, 48, 49, 50, 51, 52] (by decide +kernel) (by decide +kernel)
set_option maxRecDepth 20000 in
theorem gX6_see_X0_hasGoose_n126 : GoodIn wsX6_see (wsX0_hasGoose) := ggX6_see_X0_hasGoose
set_option maxRecDepth 20000 in
theorem ggX6_see_X6_isOwner : GoodIn wsX6_see wsX6_isOwner := goodIn_r _ [13, 14, 8, 9, 10] (by decide +kernel) (by decide +kernel)
set_option maxRecDepth 20000 in
theorem gX6_see_X6_isOwner : GoodIn wsX6_see (va_wsS RX6 145 yX6_isOwner wsX6_isOwner) := goodIn_app (goodIn_of _ (by decide +kernel)) ggX6_see_X6_isOwner
set_option maxRecDepth 20000 in
theorem ggX6_see_X6_isWithin : GoodIn wsX6_see wsX6_isWithin := goodIn_r _ [10] (by decide +kernel) (by decide +kernel)
set_option maxRecDepth 20000 in
theorem gX6_see_X6_isWithin : GoodIn wsX6_see (va_wsS RX6 69 yX6_isWithin wsX6_isWithin) := goodIn_app (goodIn_of _ (by decide +kernel)) ggX6_see_X6_isWithin
set_option maxRecDepth 20000 in
theorem ggX6_see_X3_add : GoodIn wsX6_see wsX3_add := goodIn_r _ [18, 19, 20, 21, 22, 23, 35, 36, 37, 38, 39] (by decide +kernel) (by decide +kernel)
set_option maxRecDepth 20000 in
theorem gX6_see_X3_add_n264 : GoodIn wsX6_see (wsX3_add) := ggX6_see_X3_add
theorem dX6_see_0 : decode cX6_see 0 = .ok (.aload_n 0, 1) := by decide +kernel
theorem dX6_see_1 : decode cX6_see 1 = .ok (.getfield 12, 3) := by decide +kernel
theorem dX6_see_4 : decode cX6_see 4 = .ok (.iload_n 1, 1) := by decide +kernel
theorem dX6_see_5 : decode cX6_see 5 = .ok (.invokevirtual 126, 3) := by decide +kernel
theorem dX6_see_8 : decode cX6_see 8 = .ok (.ifCond .eq 10, 3) := by decide +kernel
theorem dX6_see_11 : decode cX6_see 11 = .ok (.iload_n 2, 1) := by decide +kernel
theorem dX6_see_12 : decode cX6_see 12 = .ok (.invokestatic 145, 3) := by decide +kernel
theorem dX6_see_15 : decode cX6_see 15 = .ok (.ifCond .ne 5, 3) := by decide +kernel
theorem dX6_see_18 : decode cX6_see 18 = .ok (.iconst (-1), 1) := by decide +kernel
theorem dX6_see_19 : decode cX6_see 19 = .ok (.ireturn, 1) := by decide +kernel
theorem dX6_see_20 : decode cX6_see 20 = .ok (.iload_n 3, 1) := by decide +kernel
theorem dX6_see_21 : decode cX6_see 21 = .ok (.iconst 0, 1) := by decide +kernel
theorem dX6_see_22 : decode cX6_see 22 = .ok (.bipush 20, 2) := by decide +kernel
theorem dX6_see_24 : decode cX6_see 24 = .ok (.invokestatic 69, 3) := by decide +kernel
theorem dX6_see_27 : decode cX6_see 27 = .ok (.ifCond .eq 14, 3) := by decide +kernel
theorem dX6_see_30 : decode cX6_see 30 = .ok (.iload 4, 2) := by decide +kernel
theorem dX6_see_32 : decode cX6_see 32 = .ok (.iconst 0, 1) := by decide +kernel
theorem dX6_see_33 : decode cX6_see 33 = .ok (.bipush 99, 2) := by decide +kernel
theorem dX6_see_35 : decode cX6_see 35 = .ok (.invokestatic 69, 3) := by decide +kernel
theorem dX6_see_38 : decode cX6_see 38 = .ok (.ifCond .ne 5, 3) := by decide +kernel
theorem dX6_see_41 : decode cX6_see 41 = .ok (.iconst (-1), 1) := by decide +kernel
theorem dX6_see_42 : decode cX6_see 42 = .ok (.ireturn, 1) := by decide +kernel
theorem dX6_see_43 : decode cX6_see 43 = .ok (.aload_n 0, 1) := by decide +kernel
theorem dX6_see_44 : decode cX6_see 44 = .ok (.getfield 44, 3) := by decide +kernel
theorem dX6_see_47 : decode cX6_see 47 = .ok (.iload_n 1, 1) := by decide +kernel
theorem dX6_see_48 : decode cX6_see 48 = .ok (.iload_n 2, 1) := by decide +kernel
theorem dX6_see_49 : decode cX6_see 49 = .ok (.iload_n 3, 1) := by decide +kernel
theorem dX6_see_50 : decode cX6_see 50 = .ok (.iload 4, 2) := by decide +kernel
theorem dX6_see_52 : decode cX6_see 52 = .ok (.invokevirtual 264, 3) := by decide +kernel
theorem dX6_see_55 : decode cX6_see 55 = .ok (.ifCond .eq 13, 3) := by decide +kernel
theorem dX6_see_58 : decode cX6_see 58 = .ok (.aload_n 0, 1) := by decide +kernel
theorem dX6_see_59 : decode cX6_see 59 = .ok (.getfield 44, 3) := by decide +kernel
theorem dX6_see_62 : decode cX6_see 62 = .ok (.getfield 97, 3) := by decide +kernel
theorem dX6_see_65 : decode cX6_see 65 = .ok (.goto 5, 3) := by decide +kernel
theorem dX6_see_68 : decode cX6_see 68 = .ok (.bipush (-3), 2) := by decide +kernel
theorem dX6_see_70 : decode cX6_see 70 = .ok (.ireturn, 1) := by decide +kernel
set_option maxRecDepth 20000 in
theorem ggX6_forget_X6_isWithin : GoodIn wsX6_forget wsX6_isWithin := goodIn_r _ [5] (by decide +kernel) (by decide +kernel)
set_option maxRecDepth 20000 in
theorem gX6_forget_X6_isWithin : GoodIn wsX6_forget (va_wsS RX6 69 yX6_isWithin wsX6_isWithin) := goodIn_app (goodIn_of _ (by decide +kernel)) ggX6_forget_X6_isWithin
theorem dX6_forget_0 : decode cX6_forget 0 = .ok (.iload_n 1, 1) := by decide +kernel
theorem dX6_forget_1 : decode cX6_forget 1 = .ok (.iconst 0, 1) := by decide +kernel
theorem dX6_forget_2 : decode cX6_forget 2 = .ok (.aload_n 0, 1) := by decide +kernel
theorem dX6_forget_3 : decode cX6_forget 3 = .ok (.getfield 44, 3) := by decide +kernel
theorem dX6_forget_6 : decode cX6_forget 6 = .ok (.getfield 97, 3) := by decide +kernel
theorem dX6_forget_9 : decode cX6_forget 9 = .ok (.invokestatic 69, 3) := by decide +kernel
theorem dX6_forget_12 : decode cX6_forget 12 = .ok (.ifCond .ne 5, 3) := by decide +kernel
theorem dX6_forget_15 : decode cX6_forget 15 = .ok (.iconst (-1), 1) := by decide +kernel
theorem dX6_forget_16 : decode cX6_forget 16 = .ok (.ireturn, 1) := by decide +kernel
theorem dX6_forget_17 : decode cX6_forget 17 = .ok (.aload_n 0, 1) := by decide +kernel
theorem dX6_forget_18 : decode cX6_forget 18 = .ok (.getfield 44, 3) := by decide +kernel
theorem dX6_forget_21 : decode cX6_forget 21 = .ok (.getfield 97, 3) := by decide +kernel
theorem dX6_forget_24 : decode cX6_forget 24 = .ok (.istore_n 2, 1) := by decide +kernel
theorem dX6_forget_25 : decode cX6_forget 25 = .ok (.aload_n 0, 1) := by decide +kernel
theorem dX6_forget_26 : decode cX6_forget 26 = .ok (.getfield 44, 3) := by decide +kernel
theorem dX6_forget_29 : decode cX6_forget 29 = .ok (.iload_n 1, 1) := by decide +kernel
theorem dX6_forget_30 : decode cX6_forget 30 = .ok (.putfield 97, 3) := by decide +kernel
theorem dX6_forget_33 : decode cX6_forget 33 = .ok (.iload_n 2, 1) := by decide +kernel
theorem dX6_forget_34 : decode cX6_forget 34 = .ok (.ireturn, 1) := by decide +kernel
set_option maxRecDepth 20000 in
theorem ggX6_kinds_X0_hasGoose : GoodIn wsX6_kinds wsX0_hasGoose := goodIn_r _ [5, 6, 7, 8, 9, 84, 85, 86, 87, 88, 89, 90, 91, 92, 93, 94, 95, 96] (by decide +kernel) (by decide +kernel)
set_option maxRecDepth 20000 in
theorem gX6_kinds_X0_hasGoose_n126 : GoodIn wsX6_kinds (wsX0_hasGoose) := ggX6_kinds_X0_hasGoose
set_option maxRecDepth 20000 in
theorem ggX6_kinds_X6_kindsAsSeen : GoodIn wsX6_kinds wsX6_kindsAsSeen := goodIn_r _ [13, 14, 1, 15, 16, 3, 17, 18, 6, 19, 20, 21, 22, 23, 24, 25, 26, 27, 28, 29, 30, 31, 32, 33, 34, 35, 36, 37, 38, 39, 40, 41, 42, 43, 44, 45, 46, 47, 48, 49, 50, 51, 52, 53, 54, 55, 56, 57, 58, 59, 60, 61, 62, 63, 64, 65, 66, 67, 68, 69, 70, 71, 72, 73, 74, 75, 76, 77, 78, 79, 80, 81, 82, 83, 84, 85, 86, 87, 88, 89, 90, 91, 92, 93, 94, 95, 96, 97, 98, 99, 100, 101] (by decide +kernel) (by decide +kernel)
set_option maxRecDepth 20000 in
theorem gX6_kinds_X6_kindsAsSeen : GoodIn wsX6_kinds (wsV RX6 267 RX6 yX6_kindsAsSeen wsX6_kindsAsSeen) := goodIn_app (goodIn_of _ (by decide +kernel)) ggX6_kinds_X6_kindsAsSeen
theorem dX6_kinds_0 : decode cX6_kinds 0 = .ok (.aload_n 0, 1) := by decide +kernel
theorem dX6_kinds_1 : decode cX6_kinds 1 = .ok (.getfield 12, 3) := by decide +kernel
theorem dX6_kinds_4 : decode cX6_kinds 4 = .ok (.iload_n 1, 1) := by decide +kernel
theorem dX6_kinds_5 : decode cX6_kinds 5 = .ok (.invokevirtual 126, 3) := by decide +kernel
theorem dX6_kinds_8 : decode cX6_kinds 8 = .ok (.ifCond .eq 11, 3) := by decide +kernel
theorem dX6_kinds_11 : decode cX6_kinds 11 = .ok (.aload_n 0, 1) := by decide +kernel
theorem dX6_kinds_12 : decode cX6_kinds 12 = .ok (.iload_n 1, 1) := by decide +kernel
theorem dX6_kinds_13 : decode cX6_kinds 13 = .ok (.invokevirtual 267, 3) := by decide +kernel
theorem dX6_kinds_16 : decode cX6_kinds 16 = .ok (.goto 4, 3) := by decide +kernel
theorem dX6_kinds_19 : decode cX6_kinds 19 = .ok (.iconst (-1), 1) := by decide +kernel
theorem dX6_kinds_20 : decode cX6_kinds 20 = .ok (.ireturn, 1) := by decide +kernel
set_option maxRecDepth 20000 in
theorem ggX6_skins_X0_hasGoose : GoodIn wsX6_skins wsX0_hasGoose := goodIn_r _ [7, 8, 9, 10, 11, 80, 81, 82, 83, 84, 85, 86, 87, 88, 89, 90, 91, 92] (by decide +kernel) (by decide +kernel)
set_option maxRecDepth 20000 in
theorem gX6_skins_X0_hasGoose_n126 : GoodIn wsX6_skins (wsX0_hasGoose) := ggX6_skins_X0_hasGoose
set_option maxRecDepth 20000 in
theorem ggX6_skins_X0_copyFrom : GoodIn wsX6_skins wsX0_copyFrom := goodIn_r _ [14, 8, 15, 16, 17, 18, 19, 20, 21, 22, 23, 24, 25, 26, 27, 28, 29, 30, 80, 81, 82, 83, 84, 85, 86, 87, 88, 89, 90, 91, 92] (by decide +kernel) (by decide +kernel)
set_option maxRecDepth 20000 in
theorem gX6_skins_X0_copyFrom_n93 : GoodIn wsX6_skins (wsX0_copyFrom) := ggX6_skins_X0_copyFrom
set_option maxRecDepth 20000 in
theorem ggX6_skins_X3_agreeWith : GoodIn wsX6_skins wsX3_agreeWith := goodIn_r _ [34, 35, 36, 37, 32, 38, 39, 40, 41, 42, 43, 44, 5, 45, 46, 24, 47, 48, 49, 8, 26, 15, 50, 51, 52, 53, 22, 54, 55, 56, 57, 58, 17, 59, 60, 61, 62, 63, 64, 65, 66, 67, 68, 93, 94, 95, 96, 97, 80, 81, 82, 83, 84, 85, 86, 87, 88, 89, 90, 91, 92] (by decide +kernel) (by decide +kernel)
set_option maxRecDepth 20000 in
theorem gX6_skins_X3_agreeWith_n270 : GoodIn wsX6_skins (wsX3_agreeWith) := ggX6_skins_X3_agreeWith
theorem dX6_skins_0 : decode cX6_skins 0 = .ok (.aload_n 0, 1) := by decide +kernel
theorem dX6_skins_1 : decode cX6_skins 1 = .ok (.getfield 12, 3) := by decide +kernel
theorem dX6_skins_4 : decode cX6_skins 4 = .ok (.iload_n 1, 1) := by decide +kernel
theorem dX6_skins_5 : decode cX6_skins 5 = .ok (.invokevirtual 126, 3) := by decide +kernel
theorem dX6_skins_8 : decode cX6_skins 8 = .ok (.ifCond .ne 5, 3) := by decide +kernel
theorem dX6_skins_11 : decode cX6_skins 11 = .ok (.iconst (-1), 1) := by decide +kernel
theorem dX6_skins_12 : decode cX6_skins 12 = .ok (.ireturn, 1) := by decide +kernel
theorem dX6_skins_13 : decode cX6_skins 13 = .ok (.iconst 0, 1) := by decide +kernel
theorem dX6_skins_14 : decode cX6_skins 14 = .ok (.istore_n 2, 1) := by decide +kernel
theorem dX6_skins_15 : decode cX6_skins 15 = .ok (.iconst 0, 1) := by decide +kernel
theorem dX6_skins_16 : decode cX6_skins 16 = .ok (.istore_n 3, 1) := by decide +kernel
theorem dX6_skins_17 : decode cX6_skins 17 = .ok (.iload_n 3, 1) := by decide +kernel
theorem dX6_skins_18 : decode cX6_skins 18 = .ok (.iconst 5, 1) := by decide +kernel
theorem dX6_skins_19 : decode cX6_skins 19 = .ok (.if_icmp .ge 50, 3) := by decide +kernel
theorem dX6_skins_22 : decode cX6_skins 22 = .ok (.aload_n 0, 1) := by decide +kernel
theorem dX6_skins_23 : decode cX6_skins 23 = .ok (.getfield 16, 3) := by decide +kernel
theorem dX6_skins_26 : decode cX6_skins 26 = .ok (.aload_n 0, 1) := by decide +kernel
theorem dX6_skins_27 : decode cX6_skins 27 = .ok (.getfield 12, 3) := by decide +kernel
theorem dX6_skins_30 : decode cX6_skins 30 = .ok (.invokevirtual 93, 3) := by decide +kernel
theorem dX6_skins_33 : decode cX6_skins 33 = .ok (.aload_n 0, 1) := by decide +kernel
theorem dX6_skins_34 : decode cX6_skins 34 = .ok (.getfield 16, 3) := by decide +kernel
theorem dX6_skins_37 : decode cX6_skins 37 = .ok (.getfield 132, 3) := by decide +kernel
theorem dX6_skins_40 : decode cX6_skins 40 = .ok (.iload_n 1, 1) := by decide +kernel
theorem dX6_skins_41 : decode cX6_skins 41 = .ok (.iload_n 3, 1) := by decide +kernel
theorem dX6_skins_42 : decode cX6_skins 42 = .ok (.iastore, 1) := by decide +kernel
theorem dX6_skins_43 : decode cX6_skins 43 = .ok (.aload_n 0, 1) := by decide +kernel
theorem dX6_skins_44 : decode cX6_skins 44 = .ok (.getfield 44, 3) := by decide +kernel
theorem dX6_skins_47 : decode cX6_skins 47 = .ok (.aload_n 0, 1) := by decide +kernel
theorem dX6_skins_48 : decode cX6_skins 48 = .ok (.getfield 16, 3) := by decide +kernel
theorem dX6_skins_51 : decode cX6_skins 51 = .ok (.invokevirtual 270, 3) := by decide +kernel
theorem dX6_skins_54 : decode cX6_skins 54 = .ok (.ifCond .eq 9, 3) := by decide +kernel
theorem dX6_skins_57 : decode cX6_skins 57 = .ok (.iload_n 2, 1) := by decide +kernel
theorem dX6_skins_58 : decode cX6_skins 58 = .ok (.iconst 1, 1) := by decide +kernel
theorem dX6_skins_59 : decode cX6_skins 59 = .ok (.iload_n 3, 1) := by decide +kernel
theorem dX6_skins_60 : decode cX6_skins 60 = .ok (.ishl, 1) := by decide +kernel
theorem dX6_skins_61 : decode cX6_skins 61 = .ok (.ior, 1) := by decide +kernel
theorem dX6_skins_62 : decode cX6_skins 62 = .ok (.istore_n 2, 1) := by decide +kernel
theorem dX6_skins_63 : decode cX6_skins 63 = .ok (.iinc 3 1, 3) := by decide +kernel
theorem dX6_skins_66 : decode cX6_skins 66 = .ok (.goto (-49), 3) := by decide +kernel
theorem dX6_skins_69 : decode cX6_skins 69 = .ok (.iload_n 2, 1) := by decide +kernel
theorem dX6_skins_70 : decode cX6_skins 70 = .ok (.ireturn, 1) := by decide +kernel
set_option maxRecDepth 20000 in
theorem ggX6_look_X0_hasGoose : GoodIn wsX6_look wsX0_hasGoose := goodIn_r _ [5, 6, 7, 8, 9, 105, 106, 107, 108, 109, 110, 111, 112, 113, 114, 115, 116, 117] (by decide +kernel) (by decide +kernel)
set_option maxRecDepth 20000 in
theorem gX6_look_X0_hasGoose_n126 : GoodIn wsX6_look (wsX0_hasGoose) := ggX6_look_X0_hasGoose
set_option maxRecDepth 20000 in
theorem ggX6_look_X6_isWithin : GoodIn wsX6_look wsX6_isWithin := goodIn_r _ [9] (by decide +kernel) (by decide +kernel)
set_option maxRecDepth 20000 in
theorem gX6_look_X6_isWithin : GoodIn wsX6_look (va_wsS RX6 69 yX6_isWithin wsX6_isWithin) := goodIn_app (goodIn_of _ (by decide +kernel)) ggX6_look_X6_isWithin
set_option maxRecDepth 20000 in
theorem ggX6_look_X6_kindsAsSeen : GoodIn wsX6_look wsX6_kindsAsSeen := goodIn_r _ [14, 15, 1, 16, 17, 3, 18, 19, 6, 20, 21, 22, 23, 24, 25, 26, 27, 28, 29, 30, 31, 32, 33, 34, 35, 36, 37, 38, 39, 40, 41, 42, 43, 44, 45, 46, 47, 48, 49, 50, 51, 52, 53, 54, 55, 56, 57, 58, 59, 60, 61, 62, 63, 64, 65, 66, 67, 68, 69, 70, 71, 72, 73, 94, 95, 96, 97, 98, 99, 100, 101, 102, 103, 104, 105, 106, 107, 108, 109, 110, 111, 112, 113, 114, 115, 116, 117, 118, 119, 120, 121, 122] (by decide +kernel) (by decide +kernel)
set_option maxRecDepth 20000 in
theorem gX6_look_X6_kindsAsSeen : GoodIn wsX6_look (wsV RX6 267 RX6 yX6_kindsAsSeen wsX6_kindsAsSeen) := goodIn_app (goodIn_of _ (by decide +kernel)) ggX6_look_X6_kindsAsSeen
set_option maxRecDepth 20000 in
theorem ggX6_look_X6_foretellByKind : GoodIn wsX6_look wsX6_foretellByKind := goodIn_r _ [77, 15, 1, 78, 17, 3, 18, 19, 6, 20, 21, 22, 23, 24, 25, 26, 27, 28, 29, 30, 31, 32, 33, 34, 35, 79, 80, 8, 81, 49, 50, 51, 52, 53, 54, 55, 56, 57, 58, 59, 60, 61, 62, 63, 64, 65, 66, 67, 68, 69, 70, 71, 72, 73, 94, 95, 96, 97, 98, 99, 100, 101, 102, 103, 104, 105, 106, 107, 108, 109, 110, 111, 112, 113, 114, 115, 116, 117] (by decide +kernel) (by decide +kernel)
set_option maxRecDepth 20000 in
theorem gX6_look_X6_foretellByKind : GoodIn wsX6_look (wsV RX6 274 RX6 yX6_foretellByKind wsX6_foretellByKind) := goodIn_app (goodIn_of _ (by decide +kernel)) ggX6_look_X6_foretellByKind
set_option maxRecDepth 20000 in
theorem ggX6_look_J6_bitCount_0f7a4 : GoodIn wsX6_look wsJ6_bitCount_0f7a4 := goodIn_r _ [85, 86, 87, 88] (by decide +kernel) (by decide +kernel)
set_option maxRecDepth 20000 in
theorem gX6_look_J6_bitCount_0f7a4 : GoodIn wsX6_look (va_wsS RX6 277 yJ6_bitCount_0f7a4 wsJ6_bitCount_0f7a4) := goodIn_app (goodIn_of _ (by decide +kernel)) ggX6_look_J6_bitCount_0f7a4
set_option maxRecDepth 20000 in
theorem ggX6_look_X6_mostKindsAlike : GoodIn wsX6_look wsX6_mostKindsAlike := goodIn_r _ [92, 78, 93, 72, 66, 73, 79, 80, 8, 81, 94, 95, 96, 97, 98, 99, 100, 101, 102, 103, 104] (by decide +kernel) (by decide +kernel)
set_option maxRecDepth 20000 in
theorem gX6_look_X6_mostKindsAlike : GoodIn wsX6_look (wsV RX6 282 RX6 yX6_mostKindsAlike wsX6_mostKindsAlike) := goodIn_app (goodIn_of _ (by decide +kernel)) ggX6_look_X6_mostKindsAlike
theorem dX6_look_0 : decode cX6_look 0 = .ok (.aload_n 0, 1) := by decide +kernel
theorem dX6_look_1 : decode cX6_look 1 = .ok (.getfield 12, 3) := by decide +kernel
theorem dX6_look_4 : decode cX6_look 4 = .ok (.iload_n 1, 1) := by decide +kernel
theorem dX6_look_5 : decode cX6_look 5 = .ok (.invokevirtual 126, 3) := by decide +kernel
theorem dX6_look_8 : decode cX6_look 8 = .ok (.ifCond .eq 12, 3) := by decide +kernel
theorem dX6_look_11 : decode cX6_look 11 = .ok (.iload_n 2, 1) := by decide +kernel
theorem dX6_look_12 : decode cX6_look 12 = .ok (.iconst 0, 1) := by decide +kernel
theorem dX6_look_13 : decode cX6_look 13 = .ok (.iconst 1, 1) := by decide +kernel
theorem dX6_look_14 : decode cX6_look 14 = .ok (.invokestatic 69, 3) := by decide +kernel
theorem dX6_look_17 : decode cX6_look 17 = .ok (.ifCond .ne 5, 3) := by decide +kernel
theorem dX6_look_20 : decode cX6_look 20 = .ok (.iconst (-1), 1) := by decide +kernel
theorem dX6_look_21 : decode cX6_look 21 = .ok (.ireturn, 1) := by decide +kernel
theorem dX6_look_22 : decode cX6_look 22 = .ok (.aload_n 0, 1) := by decide +kernel
theorem dX6_look_23 : decode cX6_look 23 = .ok (.iload_n 1, 1) := by decide +kernel
theorem dX6_look_24 : decode cX6_look 24 = .ok (.invokevirtual 267, 3) := by decide +kernel
theorem dX6_look_27 : decode cX6_look 27 = .ok (.istore_n 3, 1) := by decide +kernel
theorem dX6_look_28 : decode cX6_look 28 = .ok (.aload_n 0, 1) := by decide +kernel
theorem dX6_look_29 : decode cX6_look 29 = .ok (.iload_n 1, 1) := by decide +kernel
theorem dX6_look_30 : decode cX6_look 30 = .ok (.invokevirtual 274, 3) := by decide +kernel
theorem dX6_look_33 : decode cX6_look 33 = .ok (.iload_n 3, 1) := by decide +kernel
theorem dX6_look_34 : decode cX6_look 34 = .ok (.invokestatic 277, 3) := by decide +kernel
theorem dX6_look_37 : decode cX6_look 37 = .ok (.istore 4, 2) := by decide +kernel
theorem dX6_look_39 : decode cX6_look 39 = .ok (.bipush (-4), 2) := by decide +kernel
theorem dX6_look_41 : decode cX6_look 41 = .ok (.istore 5, 2) := by decide +kernel
theorem dX6_look_43 : decode cX6_look 43 = .ok (.iconst 0, 1) := by decide +kernel
theorem dX6_look_44 : decode cX6_look 44 = .ok (.istore 6, 2) := by decide +kernel
theorem dX6_look_46 : decode cX6_look 46 = .ok (.iload 6, 2) := by decide +kernel
theorem dX6_look_48 : decode cX6_look 48 = .ok (.bipush 20, 2) := by decide +kernel
theorem dX6_look_50 : decode cX6_look 50 = .ok (.if_icmp .gt 56, 3) := by decide +kernel
theorem dX6_look_53 : decode cX6_look 53 = .ok (.iconst 0, 1) := by decide +kernel
theorem dX6_look_54 : decode cX6_look 54 = .ok (.istore 7, 2) := by decide +kernel
theorem dX6_look_56 : decode cX6_look 56 = .ok (.iload 7, 2) := by decide +kernel
theorem dX6_look_58 : decode cX6_look 58 = .ok (.iconst 5, 1) := by decide +kernel
theorem dX6_look_59 : decode cX6_look 59 = .ok (.if_icmp .ge 41, 3) := by decide +kernel
theorem dX6_look_62 : decode cX6_look 62 = .ok (.aload_n 0, 1) := by decide +kernel
theorem dX6_look_63 : decode cX6_look 63 = .ok (.iload_n 3, 1) := by decide +kernel
theorem dX6_look_64 : decode cX6_look 64 = .ok (.iload 6, 2) := by decide +kernel
theorem dX6_look_66 : decode cX6_look 66 = .ok (.iload 7, 2) := by decide +kernel
theorem dX6_look_68 : decode cX6_look 68 = .ok (.invokevirtual 282, 3) := by decide +kernel
theorem dX6_look_71 : decode cX6_look 71 = .ok (.istore 8, 2) := by decide +kernel
theorem dX6_look_73 : decode cX6_look 73 = .ok (.iload 8, 2) := by decide +kernel
theorem dX6_look_75 : decode cX6_look 75 = .ok (.iload 4, 2) := by decide +kernel
theorem dX6_look_77 : decode cX6_look 77 = .ok (.if_icmp .ge 17, 3) := by decide +kernel
theorem dX6_look_80 : decode cX6_look 80 = .ok (.iload 8, 2) := by decide +kernel
theorem dX6_look_82 : decode cX6_look 82 = .ok (.istore 4, 2) := by decide +kernel
theorem dX6_look_84 : decode cX6_look 84 = .ok (.bipush 10, 2) := by decide +kernel
theorem dX6_look_86 : decode cX6_look 86 = .ok (.iload 6, 2) := by decide +kernel
theorem dX6_look_88 : decode cX6_look 88 = .ok (.imul, 1) := by decide +kernel
theorem dX6_look_89 : decode cX6_look 89 = .ok (.iload 7, 2) := by decide +kernel
theorem dX6_look_91 : decode cX6_look 91 = .ok (.iadd, 1) := by decide +kernel
theorem dX6_look_92 : decode cX6_look 92 = .ok (.istore 5, 2) := by decide +kernel
theorem dX6_look_94 : decode cX6_look 94 = .ok (.iinc 7 1, 3) := by decide +kernel
theorem dX6_look_97 : decode cX6_look 97 = .ok (.goto (-41), 3) := by decide +kernel
theorem dX6_look_100 : decode cX6_look 100 = .ok (.iinc 6 1, 3) := by decide +kernel
theorem dX6_look_103 : decode cX6_look 103 = .ok (.goto (-57), 3) := by decide +kernel
theorem dX6_look_106 : decode cX6_look 106 = .ok (.iload_n 2, 1) := by decide +kernel
theorem dX6_look_107 : decode cX6_look 107 = .ok (.ifCond .eq 10, 3) := by decide +kernel
theorem dX6_look_110 : decode cX6_look 110 = .ok (.iload 5, 2) := by decide +kernel
theorem dX6_look_112 : decode cX6_look 112 = .ok (.bipush (-4), 2) := by decide +kernel
theorem dX6_look_114 : decode cX6_look 114 = .ok (.if_icmp .ne 8, 3) := by decide +kernel
theorem dX6_look_117 : decode cX6_look 117 = .ok (.iload 5, 2) := by decide +kernel
theorem dX6_look_119 : decode cX6_look 119 = .ok (.goto 5, 3) := by decide +kernel
theorem dX6_look_122 : decode cX6_look 122 = .ok (.iload 4, 2) := by decide +kernel
theorem dX6_look_124 : decode cX6_look 124 = .ok (.ireturn, 1) := by decide +kernel
set_option maxRecDepth 20000 in
theorem ggX6_drift_X6_isWithin : GoodIn wsX6_drift wsX6_isWithin := goodIn_r _ [7] (by decide +kernel) (by decide +kernel)
set_option maxRecDepth 20000 in
theorem gX6_drift_X6_isWithin : GoodIn wsX6_drift (va_wsS RX6 69 yX6_isWithin wsX6_isWithin) := goodIn_app (goodIn_of _ (by decide +kernel)) ggX6_drift_X6_isWithin
set_option maxRecDepth 20000 in
theorem ggX6_drift_X0_copyFrom : GoodIn wsX6_drift wsX0_copyFrom := goodIn_r _ [11, 12, 13, 14, 15, 16, 17, 18, 19, 20, 21, 22, 23, 24, 25, 26, 27, 28, 98, 99, 100, 101, 102, 103, 104, 105, 106, 107, 108, 109, 110] (by decide +kernel) (by decide +kernel)
set_option maxRecDepth 20000 in
theorem gX6_drift_X0_copyFrom_n93 : GoodIn wsX6_drift (wsX0_copyFrom) := ggX6_drift_X0_copyFrom
set_option maxRecDepth 20000 in
theorem ggX6_drift_X0_tryDrawn : GoodIn wsX6_drift wsX0_tryDrawn := goodIn_r _ [31, 12, 32, 33, 34, 9, 35, 36, 37, 38, 39, 40, 6, 41, 4, 5, 7, 42, 43, 44, 45, 46, 47, 48, 49, 21, 23, 50, 51, 52, 53, 54, 55, 56, 57, 22, 58, 59, 60, 61, 62, 63, 64, 65, 98, 99, 100, 101, 102, 103, 104, 105, 106, 107, 108, 109, 110] (by decide +kernel) (by decide +kernel)
set_option maxRecDepth 20000 in
theorem gX6_drift_X0_tryDrawn_n287 : GoodIn wsX6_drift (wsX0_tryDrawn) := ggX6_drift_X0_tryDrawn
set_option maxRecDepth 20000 in
theorem ggX6_drift_X0_passWeek : GoodIn wsX6_drift wsX0_passWeek := goodIn_r _ [68, 12, 24, 13, 69, 70, 71, 9, 72, 20, 54, 55, 56, 57, 22, 73, 74, 75, 76, 15, 77, 78, 79, 80, 81, 82, 83, 84, 85, 86, 98, 99, 100, 101, 102, 103, 104, 105, 106, 107, 108, 109, 110] (by decide +kernel) (by decide +kernel)
set_option maxRecDepth 20000 in
theorem gX6_drift_X0_passWeek_n207 : GoodIn wsX6_drift (wsX0_passWeek) := ggX6_drift_X0_passWeek
theorem dX6_drift_0 : decode cX6_drift 0 = .ok (.iload_n 2, 1) := by decide +kernel
theorem dX6_drift_1 : decode cX6_drift 1 = .ok (.iconst 1, 1) := by decide +kernel
theorem dX6_drift_2 : decode cX6_drift 2 = .ok (.bipush 60, 2) := by decide +kernel
theorem dX6_drift_4 : decode cX6_drift 4 = .ok (.invokestatic 69, 3) := by decide +kernel
theorem dX6_drift_7 : decode cX6_drift 7 = .ok (.ifCond .eq 12, 3) := by decide +kernel
theorem dX6_drift_10 : decode cX6_drift 10 = .ok (.iload_n 3, 1) := by decide +kernel
theorem dX6_drift_11 : decode cX6_drift 11 = .ok (.iconst 0, 1) := by decide +kernel
theorem dX6_drift_12 : decode cX6_drift 12 = .ok (.iconst 1, 1) := by decide +kernel
theorem dX6_drift_13 : decode cX6_drift 13 = .ok (.invokestatic 69, 3) := by decide +kernel
theorem dX6_drift_16 : decode cX6_drift 16 = .ok (.ifCond .ne 5, 3) := by decide +kernel
theorem dX6_drift_19 : decode cX6_drift 19 = .ok (.iconst (-1), 1) := by decide +kernel
theorem dX6_drift_20 : decode cX6_drift 20 = .ok (.ireturn, 1) := by decide +kernel
theorem dX6_drift_21 : decode cX6_drift 21 = .ok (.aload_n 0, 1) := by decide +kernel
theorem dX6_drift_22 : decode cX6_drift 22 = .ok (.getfield 12, 3) := by decide +kernel
theorem dX6_drift_25 : decode cX6_drift 25 = .ok (.getfield 103, 3) := by decide +kernel
theorem dX6_drift_28 : decode cX6_drift 28 = .ok (.iconst 1, 1) := by decide +kernel
theorem dX6_drift_29 : decode cX6_drift 29 = .ok (.if_icmp .ge 6, 3) := by decide +kernel
theorem dX6_drift_32 : decode cX6_drift 32 = .ok (.bipush (-2), 2) := by decide +kernel
theorem dX6_drift_34 : decode cX6_drift 34 = .ok (.ireturn, 1) := by decide +kernel
theorem dX6_drift_35 : decode cX6_drift 35 = .ok (.aload_n 0, 1) := by decide +kernel
theorem dX6_drift_36 : decode cX6_drift 36 = .ok (.getfield 16, 3) := by decide +kernel
theorem dX6_drift_39 : decode cX6_drift 39 = .ok (.aload_n 0, 1) := by decide +kernel
theorem dX6_drift_40 : decode cX6_drift 40 = .ok (.getfield 12, 3) := by decide +kernel
theorem dX6_drift_43 : decode cX6_drift 43 = .ok (.invokevirtual 93, 3) := by decide +kernel
theorem dX6_drift_46 : decode cX6_drift 46 = .ok (.iload_n 1, 1) := by decide +kernel
theorem dX6_drift_47 : decode cX6_drift 47 = .ok (.istore 4, 2) := by decide +kernel
theorem dX6_drift_49 : decode cX6_drift 49 = .ok (.iconst 0, 1) := by decide +kernel
theorem dX6_drift_50 : decode cX6_drift 50 = .ok (.istore 5, 2) := by decide +kernel
theorem dX6_drift_52 : decode cX6_drift 52 = .ok (.iconst 0, 1) := by decide +kernel
theorem dX6_drift_53 : decode cX6_drift 53 = .ok (.istore 6, 2) := by decide +kernel
theorem dX6_drift_55 : decode cX6_drift 55 = .ok (.iconst 0, 1) := by decide +kernel
theorem dX6_drift_56 : decode cX6_drift 56 = .ok (.istore 7, 2) := by decide +kernel
theorem dX6_drift_58 : decode cX6_drift 58 = .ok (.iload 7, 2) := by decide +kernel
theorem dX6_drift_60 : decode cX6_drift 60 = .ok (.iload_n 2, 1) := by decide +kernel
theorem dX6_drift_61 : decode cX6_drift 61 = .ok (.if_icmp .ge 58, 3) := by decide +kernel
theorem dX6_drift_64 : decode cX6_drift 64 = .ok (.iload 4, 2) := by decide +kernel
theorem dX6_drift_66 : decode cX6_drift 66 = .ok (.ldc_w 286, 3) := by decide +kernel
theorem dX6_drift_69 : decode cX6_drift 69 = .ok (.imul, 1) := by decide +kernel
theorem dX6_drift_70 : decode cX6_drift 70 = .ok (.sipush 12345, 3) := by decide +kernel
theorem dX6_drift_73 : decode cX6_drift 73 = .ok (.iadd, 1) := by decide +kernel
theorem dX6_drift_74 : decode cX6_drift 74 = .ok (.istore 4, 2) := by decide +kernel
theorem dX6_drift_76 : decode cX6_drift 76 = .ok (.aload_n 0, 1) := by decide +kernel
theorem dX6_drift_77 : decode cX6_drift 77 = .ok (.getfield 16, 3) := by decide +kernel
theorem dX6_drift_80 : decode cX6_drift 80 = .ok (.iload 4, 2) := by decide +kernel
theorem dX6_drift_82 : decode cX6_drift 82 = .ok (.bipush 16, 2) := by decide +kernel
theorem dX6_drift_84 : decode cX6_drift 84 = .ok (.iushr, 1) := by decide +kernel
theorem dX6_drift_85 : decode cX6_drift 85 = .ok (.sipush 32767, 3) := by decide +kernel
theorem dX6_drift_88 : decode cX6_drift 88 = .ok (.iand, 1) := by decide +kernel
theorem dX6_drift_89 : decode cX6_drift 89 = .ok (.invokevirtual 287, 3) := by decide +kernel
theorem dX6_drift_92 : decode cX6_drift 92 = .ok (.ifCond .eq 9, 3) := by decide +kernel
theorem dX6_drift_95 : decode cX6_drift 95 = .ok (.iinc 6 1, 3) := by decide +kernel
theorem dX6_drift_98 : decode cX6_drift 98 = .ok (.goto 15, 3) := by decide +kernel
theorem dX6_drift_101 : decode cX6_drift 101 = .ok (.iload 5, 2) := by decide +kernel
theorem dX6_drift_103 : decode cX6_drift 103 = .ok (.aload_n 0, 1) := by decide +kernel
theorem dX6_drift_104 : decode cX6_drift 104 = .ok (.getfield 16, 3) := by decide +kernel
theorem dX6_drift_107 : decode cX6_drift 107 = .ok (.invokevirtual 207, 3) := by decide +kernel
theorem dX6_drift_110 : decode cX6_drift 110 = .ok (.iadd, 1) := by decide +kernel
theorem dX6_drift_111 : decode cX6_drift 111 = .ok (.istore 5, 2) := by decide +kernel
theorem dX6_drift_113 : decode cX6_drift 113 = .ok (.iinc 7 1, 3) := by decide +kernel
theorem dX6_drift_116 : decode cX6_drift 116 = .ok (.goto (-58), 3) := by decide +kernel
theorem dX6_drift_119 : decode cX6_drift 119 = .ok (.iload_n 3, 1) := by decide +kernel
theorem dX6_drift_120 : decode cX6_drift 120 = .ok (.ifCond .ne 8, 3) := by decide +kernel
theorem dX6_drift_123 : decode cX6_drift 123 = .ok (.iload 5, 2) := by decide +kernel
theorem dX6_drift_125 : decode cX6_drift 125 = .ok (.goto 5, 3) := by decide +kernel
theorem dX6_drift_128 : decode cX6_drift 128 = .ok (.iload 6, 2) := by decide +kernel
theorem dX6_drift_130 : decode cX6_drift 130 = .ok (.ireturn, 1) := by decide +kernel
set_option maxRecDepth 20000 in
theorem ggX6_keep_X6_isWithin : GoodIn wsX6_keep wsX6_isWithin := goodIn_r _ [7] (by decide +kernel) (by decide +kernel)
set_option maxRecDepth 20000 in
theorem gX6_keep_X6_isWithin : GoodIn wsX6_keep (va_wsS RX6 69 yX6_isWithin wsX6_isWithin) := goodIn_app (goodIn_of _ (by decide +kernel)) ggX6_keep_X6_isWithin
set_option maxRecDepth 20000 in
theorem ggX6_keep_X0_copyFrom : GoodIn wsX6_keep wsX0_copyFrom := goodIn_r _ [11, 12, 13, 14, 15, 16, 17, 18, 19, 20, 21, 22, 23, 24, 25, 26, 27, 28, 40, 41, 42, 43, 44, 45, 46, 47, 48, 49, 50, 51, 52] (by decide +kernel) (by decide +kernel)
set_option maxRecDepth 20000 in
theorem gX6_keep_X0_copyFrom_n93 : GoodIn wsX6_keep (wsX0_copyFrom) := ggX6_keep_X0_copyFrom
theorem dX6_keep_0 : decode cX6_keep 0 = .ok (.iload_n 1, 1) := by decide +kernel
theorem dX6_keep_1 : decode cX6_keep 1 = .ok (.iconst 0, 1) := by decide +kernel
theorem dX6_keep_2 : decode cX6_keep 2 = .ok (.iconst 1, 1) := by decide +kernel
theorem dX6_keep_3 : decode cX6_keep 3 = .ok (.invokestatic 69, 3) := by decide +kernel
theorem dX6_keep_6 : decode cX6_keep 6 = .ok (.ifCond .ne 5, 3) := by decide +kernel
theorem dX6_keep_9 : decode cX6_keep 9 = .ok (.iconst (-1), 1) := by decide +kernel
theorem dX6_keep_10 : decode cX6_keep 10 = .ok (.ireturn, 1) := by decide +kernel
theorem dX6_keep_11 : decode cX6_keep 11 = .ok (.aload_n 0, 1) := by decide +kernel
theorem dX6_keep_12 : decode cX6_keep 12 = .ok (.getfield 23, 3) := by decide +kernel
theorem dX6_keep_15 : decode cX6_keep 15 = .ok (.iload_n 1, 1) := by decide +kernel
theorem dX6_keep_16 : decode cX6_keep 16 = .ok (.ishr, 1) := by decide +kernel
theorem dX6_keep_17 : decode cX6_keep 17 = .ok (.iconst 1, 1) := by decide +kernel
theorem dX6_keep_18 : decode cX6_keep 18 = .ok (.iand, 1) := by decide +kernel
theorem dX6_keep_19 : decode cX6_keep 19 = .ok (.istore_n 2, 1) := by decide +kernel
theorem dX6_keep_20 : decode cX6_keep 20 = .ok (.aload_n 0, 1) := by decide +kernel
theorem dX6_keep_21 : decode cX6_keep 21 = .ok (.getfield 19, 3) := by decide +kernel
theorem dX6_keep_24 : decode cX6_keep 24 = .ok (.iload_n 1, 1) := by decide +kernel
theorem dX6_keep_25 : decode cX6_keep 25 = .ok (.aaload, 1) := by decide +kernel
theorem dX6_keep_26 : decode cX6_keep 26 = .ok (.aload_n 0, 1) := by decide +kernel
theorem dX6_keep_27 : decode cX6_keep 27 = .ok (.getfield 12, 3) := by decide +kernel
theorem dX6_keep_30 : decode cX6_keep 30 = .ok (.invokevirtual 93, 3) := by decide +kernel
theorem dX6_keep_33 : decode cX6_keep 33 = .ok (.aload_n 0, 1) := by decide +kernel
theorem dX6_keep_34 : decode cX6_keep 34 = .ok (.dup, 1) := by decide +kernel
theorem dX6_keep_35 : decode cX6_keep 35 = .ok (.getfield 23, 3) := by decide +kernel
theorem dX6_keep_38 : decode cX6_keep 38 = .ok (.iconst 1, 1) := by decide +kernel
theorem dX6_keep_39 : decode cX6_keep 39 = .ok (.iload_n 1, 1) := by decide +kernel
theorem dX6_keep_40 : decode cX6_keep 40 = .ok (.ishl, 1) := by decide +kernel
theorem dX6_keep_41 : decode cX6_keep 41 = .ok (.ior, 1) := by decide +kernel
theorem dX6_keep_42 : decode cX6_keep 42 = .ok (.putfield 23, 3) := by decide +kernel
theorem dX6_keep_45 : decode cX6_keep 45 = .ok (.iload_n 2, 1) := by decide +kernel
theorem dX6_keep_46 : decode cX6_keep 46 = .ok (.ireturn, 1) := by decide +kernel
set_option maxRecDepth 20000 in
theorem ggX6_back_X6_isWithin : GoodIn wsX6_back wsX6_isWithin := goodIn_r _ [7] (by decide +kernel) (by decide +kernel)
set_option maxRecDepth 20000 in
theorem gX6_back_X6_isWithin : GoodIn wsX6_back (va_wsS RX6 69 yX6_isWithin wsX6_isWithin) := goodIn_app (goodIn_of _ (by decide +kernel)) ggX6_back_X6_isWithin
set_option maxRecDepth 20000 in
theorem ggX6_back_X0_copyFrom : GoodIn wsX6_back wsX0_copyFrom := goodIn_r _ [11, 12, 13, 14, 15, 16, 17, 18, 19, 20, 21, 22, 23, 24, 25, 26, 27, 28, 40, 41, 42, 43, 44, 45, 46, 47, 48, 49, 50, 51, 52] (by decide +kernel) (by decide +kernel)
set_option maxRecDepth 20000 in
theorem gX6_back_X0_copyFrom_n93 : GoodIn wsX6_back (wsX0_copyFrom) := ggX6_back_X0_copyFrom
theorem dX6_back_0 : decode cX6_back 0 = .ok (.iload_n 1, 1) := by decide +kernel
theorem dX6_back_1 : decode cX6_back 1 = .ok (.iconst 0, 1) := by decide +kernel
theorem dX6_back_2 : decode cX6_back 2 = .ok (.iconst 1, 1) := by decide +kernel
theorem dX6_back_3 : decode cX6_back 3 = .ok (.invokestatic 69, 3) := by decide +kernel
theorem dX6_back_6 : decode cX6_back 6 = .ok (.ifCond .ne 5, 3) := by decide +kernel
theorem dX6_back_9 : decode cX6_back 9 = .ok (.iconst (-1), 1) := by decide +kernel
theorem dX6_back_10 : decode cX6_back 10 = .ok (.ireturn, 1) := by decide +kernel
theorem dX6_back_11 : decode cX6_back 11 = .ok (.aload_n 0, 1) := by decide +kernel
theorem dX6_back_12 : decode cX6_back 12 = .ok (.getfield 23, 3) := by decide +kernel
theorem dX6_back_15 : decode cX6_back 15 = .ok (.iload_n 1, 1) := by decide +kernel
theorem dX6_back_16 : decode cX6_back 16 = .ok (.ishr, 1) := by decide +kernel
theorem dX6_back_17 : decode cX6_back 17 = .ok (.iconst 1, 1) := by decide +kernel
theorem dX6_back_18 : decode cX6_back 18 = .ok (.iand, 1) := by decide +kernel
theorem dX6_back_19 : decode cX6_back 19 = .ok (.ifCond .ne 6, 3) := by decide +kernel
theorem dX6_back_22 : decode cX6_back 22 = .ok (.bipush (-2), 2) := by decide +kernel
theorem dX6_back_24 : decode cX6_back 24 = .ok (.ireturn, 1) := by decide +kernel
theorem dX6_back_25 : decode cX6_back 25 = .ok (.aload_n 0, 1) := by decide +kernel
theorem dX6_back_26 : decode cX6_back 26 = .ok (.getfield 12, 3) := by decide +kernel
theorem dX6_back_29 : decode cX6_back 29 = .ok (.aload_n 0, 1) := by decide +kernel
theorem dX6_back_30 : decode cX6_back 30 = .ok (.getfield 19, 3) := by decide +kernel
theorem dX6_back_33 : decode cX6_back 33 = .ok (.iload_n 1, 1) := by decide +kernel
theorem dX6_back_34 : decode cX6_back 34 = .ok (.aaload, 1) := by decide +kernel
theorem dX6_back_35 : decode cX6_back 35 = .ok (.invokevirtual 93, 3) := by decide +kernel
theorem dX6_back_38 : decode cX6_back 38 = .ok (.aload_n 0, 1) := by decide +kernel
theorem dX6_back_39 : decode cX6_back 39 = .ok (.getfield 12, 3) := by decide +kernel
theorem dX6_back_42 : decode cX6_back 42 = .ok (.getfield 106, 3) := by decide +kernel
theorem dX6_back_45 : decode cX6_back 45 = .ok (.ireturn, 1) := by decide +kernel
set_option maxRecDepth 20000 in
theorem ggX6_sheet_X6_isSheet : GoodIn wsX6_sheet wsX6_isSheet := goodIn_r _ [5, 6, 7, 4, 8] (by decide +kernel) (by decide +kernel)
set_option maxRecDepth 20000 in
theorem gX6_sheet_X6_isSheet : GoodIn wsX6_sheet (va_wsS RX6 290 yX6_isSheet wsX6_isSheet) := goodIn_app (goodIn_of _ (by decide +kernel)) ggX6_sheet_X6_isSheet
set_option maxRecDepth 20000 in
theorem ggX6_sheet_X6_isLane : GoodIn wsX6_sheet wsX6_isLane := goodIn_r _ [11, 6, 7, 4, 8] (by decide +kernel) (by decide +kernel)
set_option maxRecDepth 20000 in
theorem gX6_sheet_X6_isLane : GoodIn wsX6_sheet (va_wsS RX6 293 yX6_isLane wsX6_isLane) := goodIn_app (goodIn_of _ (by decide +kernel)) ggX6_sheet_X6_isLane
set_option maxRecDepth 20000 in
theorem ggX6_sheet_X2_renew : GoodIn wsX6_sheet wsX2_renew := goodIn_r _ [15, 16, 17, 18, 19, 20, 21, 22, 23, 35, 36, 37, 38] (by decide +kernel) (by decide +kernel)
set_option maxRecDepth 20000 in
theorem gX6_sheet_X2_renew_n296 : GoodIn wsX6_sheet (wsX2_renew) := ggX6_sheet_X2_renew
theorem dX6_sheet_0 : decode cX6_sheet 0 = .ok (.iload_n 1, 1) := by decide +kernel
theorem dX6_sheet_1 : decode cX6_sheet 1 = .ok (.invokestatic 290, 3) := by decide +kernel
theorem dX6_sheet_4 : decode cX6_sheet 4 = .ok (.ifCond .eq 16, 3) := by decide +kernel
theorem dX6_sheet_7 : decode cX6_sheet 7 = .ok (.iload_n 2, 1) := by decide +kernel
theorem dX6_sheet_8 : decode cX6_sheet 8 = .ok (.invokestatic 293, 3) := by decide +kernel
theorem dX6_sheet_11 : decode cX6_sheet 11 = .ok (.ifCond .eq 9, 3) := by decide +kernel
theorem dX6_sheet_14 : decode cX6_sheet 14 = .ok (.iload_n 3, 1) := by decide +kernel
theorem dX6_sheet_15 : decode cX6_sheet 15 = .ok (.bipush 40, 2) := by decide +kernel
theorem dX6_sheet_17 : decode cX6_sheet 17 = .ok (.if_icmp .le 5, 3) := by decide +kernel
theorem dX6_sheet_20 : decode cX6_sheet 20 = .ok (.iconst (-1), 1) := by decide +kernel
theorem dX6_sheet_21 : decode cX6_sheet 21 = .ok (.ireturn, 1) := by decide +kernel
theorem dX6_sheet_22 : decode cX6_sheet 22 = .ok (.iload_n 3, 1) := by decide +kernel
theorem dX6_sheet_23 : decode cX6_sheet 23 = .ok (.ifCond .ge 6, 3) := by decide +kernel
theorem dX6_sheet_26 : decode cX6_sheet 26 = .ok (.bipush (-14), 2) := by decide +kernel
theorem dX6_sheet_28 : decode cX6_sheet 28 = .ok (.ireturn, 1) := by decide +kernel
theorem dX6_sheet_29 : decode cX6_sheet 29 = .ok (.aload_n 0, 1) := by decide +kernel
theorem dX6_sheet_30 : decode cX6_sheet 30 = .ok (.getfield 61, 3) := by decide +kernel
theorem dX6_sheet_33 : decode cX6_sheet 33 = .ok (.iload_n 1, 1) := by decide +kernel
theorem dX6_sheet_34 : decode cX6_sheet 34 = .ok (.aaload, 1) := by decide +kernel
theorem dX6_sheet_35 : decode cX6_sheet 35 = .ok (.iload_n 2, 1) := by decide +kernel
theorem dX6_sheet_36 : decode cX6_sheet 36 = .ok (.iload_n 3, 1) := by decide +kernel
theorem dX6_sheet_37 : decode cX6_sheet 37 = .ok (.invokevirtual 296, 3) := by decide +kernel
theorem dX6_sheet_40 : decode cX6_sheet 40 = .ok (.iconst 1, 1) := by decide +kernel
theorem dX6_sheet_41 : decode cX6_sheet 41 = .ok (.ireturn, 1) := by decide +kernel
set_option maxRecDepth 20000 in
theorem ggX6_lay_X6_isSheet : GoodIn wsX6_lay wsX6_isSheet := goodIn_r _ [5, 6, 7, 4, 8] (by decide +kernel) (by decide +kernel)
set_option maxRecDepth 20000 in
theorem gX6_lay_X6_isSheet : GoodIn wsX6_lay (va_wsS RX6 290 yX6_isSheet wsX6_isSheet) := goodIn_app (goodIn_of _ (by decide +kernel)) ggX6_lay_X6_isSheet
set_option maxRecDepth 20000 in
theorem ggX6_lay_X2_put : GoodIn wsX6_lay wsX2_put := goodIn_r _ [12, 13, 14, 15, 16, 7, 4, 8, 28, 29, 30, 31] (by decide +kernel) (by decide +kernel)
set_option maxRecDepth 20000 in
theorem gX6_lay_X2_put_n300 : GoodIn wsX6_lay (wsX2_put) := ggX6_lay_X2_put
theorem dX6_lay_0 : decode cX6_lay 0 = .ok (.iload_n 1, 1) := by decide +kernel
theorem dX6_lay_1 : decode cX6_lay 1 = .ok (.invokestatic 290, 3) := by decide +kernel
theorem dX6_lay_4 : decode cX6_lay 4 = .ok (.ifCond .ne 5, 3) := by decide +kernel
theorem dX6_lay_7 : decode cX6_lay 7 = .ok (.iconst (-1), 1) := by decide +kernel
theorem dX6_lay_8 : decode cX6_lay 8 = .ok (.ireturn, 1) := by decide +kernel
theorem dX6_lay_9 : decode cX6_lay 9 = .ok (.aload_n 0, 1) := by decide +kernel
theorem dX6_lay_10 : decode cX6_lay 10 = .ok (.getfield 61, 3) := by decide +kernel
theorem dX6_lay_13 : decode cX6_lay 13 = .ok (.iload_n 1, 1) := by decide +kernel
theorem dX6_lay_14 : decode cX6_lay 14 = .ok (.aaload, 1) := by decide +kernel
theorem dX6_lay_15 : decode cX6_lay 15 = .ok (.iload_n 2, 1) := by decide +kernel
theorem dX6_lay_16 : decode cX6_lay 16 = .ok (.iload_n 3, 1) := by decide +kernel
theorem dX6_lay_17 : decode cX6_lay 17 = .ok (.invokevirtual 300, 3) := by decide +kernel
theorem dX6_lay_20 : decode cX6_lay 20 = .ok (.istore 4, 2) := by decide +kernel
theorem dX6_lay_22 : decode cX6_lay 22 = .ok (.iload 4, 2) := by decide +kernel
theorem dX6_lay_24 : decode cX6_lay 24 = .ok (.ifCond .ne 7, 3) := by decide +kernel
theorem dX6_lay_27 : decode cX6_lay 27 = .ok (.iconst 1, 1) := by decide +kernel
theorem dX6_lay_28 : decode cX6_lay 28 = .ok (.goto 8, 3) := by decide +kernel
theorem dX6_lay_31 : decode cX6_lay 31 = .ok (.bipush (-10), 2) := by decide +kernel
theorem dX6_lay_33 : decode cX6_lay 33 = .ok (.iload 4, 2) := by decide +kernel
theorem dX6_lay_35 : decode cX6_lay 35 = .ok (.isub, 1) := by decide +kernel
theorem dX6_lay_36 : decode cX6_lay 36 = .ok (.ireturn, 1) := by decide +kernel
set_option maxRecDepth 20000 in
theorem ggX6_read_X6_isSheet : GoodIn wsX6_read wsX6_isSheet := goodIn_r _ [8, 9, 10, 7, 11] (by decide +kernel) (by decide +kernel)
set_option maxRecDepth 20000 in
theorem gX6_read_X6_isSheet : GoodIn wsX6_read (va_wsS RX6 290 yX6_isSheet wsX6_isSheet) := goodIn_app (goodIn_of _ (by decide +kernel)) ggX6_read_X6_isSheet
set_option maxRecDepth 20000 in
theorem ggX6_read_X6_isLane : GoodIn wsX6_read wsX6_isLane := goodIn_r _ [14, 9, 10, 7, 11] (by decide +kernel) (by decide +kernel)
set_option maxRecDepth 20000 in
theorem gX6_read_X6_isLane : GoodIn wsX6_read (va_wsS RX6 293 yX6_isLane wsX6_isLane) := goodIn_app (goodIn_of _ (by decide +kernel)) ggX6_read_X6_isLane
set_option maxRecDepth 20000 in
theorem ggX6_read_X6_isWithin : GoodIn wsX6_read wsX6_isWithin := goodIn_r _ [11] (by decide +kernel) (by decide +kernel)
set_option maxRecDepth 20000 in
theorem gX6_read_X6_isWithin : GoodIn wsX6_read (va_wsS RX6 69 yX6_isWithin wsX6_isWithin) := goodIn_app (goodIn_of _ (by decide +kernel)) ggX6_read_X6_isWithin
set_option maxRecDepth 20000 in
theorem ggX6_read_X0_copyFrom : GoodIn wsX6_read wsX0_copyFrom := goodIn_r _ [18, 19, 20, 21, 22, 23, 24, 25, 26, 27, 28, 29, 30, 31, 32, 33, 34, 35, 91, 92, 93, 94, 95, 96, 97, 98, 99, 100, 101, 102, 103] (by decide +kernel) (by decide +kernel)
set_option maxRecDepth 20000 in
theorem gX6_read_X0_copyFrom_n93 : GoodIn wsX6_read (wsX0_copyFrom) := ggX6_read_X0_copyFrom
set_option maxRecDepth 20000 in
theorem ggX6_read_X2_faultOfTrade : GoodIn wsX6_read wsX2_faultOfTrade := goodIn_r _ [39, 40, 41, 42, 10, 7, 11, 104, 105, 106, 107] (by decide +kernel) (by decide +kernel)
set_option maxRecDepth 20000 in
theorem gX6_read_X2_faultOfTrade_n303 : GoodIn wsX6_read (wsX2_faultOfTrade) := ggX6_read_X2_faultOfTrade
set_option maxRecDepth 20000 in
theorem ggX6_read_X2_tradeOn : GoodIn wsX6_read wsX2_tradeOn := goodIn_r _ [45, 46, 47, 16, 48, 49, 50, 51, 52, 53, 54, 7, 55, 9, 10, 11, 56, 57, 58, 59, 19, 60, 61, 62, 63, 28, 30, 64, 65, 66, 67, 68, 69, 70, 71, 29, 72, 73, 74, 75, 76, 77, 78, 79, 104, 105, 106, 107, 91, 92, 93, 94, 95, 96, 97, 98, 99, 100, 101, 102, 103] (by decide +kernel) (by decide +kernel)
set_option maxRecDepth 20000 in
theorem gX6_read_X2_tradeOn_n306 : GoodIn wsX6_read (wsX2_tradeOn) := ggX6_read_X2_tradeOn
theorem dX6_read_0 : decode cX6_read 0 = .ok (.iload_n 1, 1) := by decide +kernel
theorem dX6_read_1 : decode cX6_read 1 = .ok (.invokestatic 290, 3) := by decide +kernel
theorem dX6_read_4 : decode cX6_read 4 = .ok (.ifCond .eq 21, 3) := by decide +kernel
theorem dX6_read_7 : decode cX6_read 7 = .ok (.iload_n 2, 1) := by decide +kernel
theorem dX6_read_8 : decode cX6_read 8 = .ok (.invokestatic 293, 3) := by decide +kernel
theorem dX6_read_11 : decode cX6_read 11 = .ok (.ifCond .eq 14, 3) := by decide +kernel
theorem dX6_read_14 : decode cX6_read 14 = .ok (.iload 4, 2) := by decide +kernel
theorem dX6_read_16 : decode cX6_read 16 = .ok (.iconst 0, 1) := by decide +kernel
theorem dX6_read_17 : decode cX6_read 17 = .ok (.bipush 10, 2) := by decide +kernel
theorem dX6_read_19 : decode cX6_read 19 = .ok (.invokestatic 69, 3) := by decide +kernel
theorem dX6_read_22 : decode cX6_read 22 = .ok (.ifCond .ne 5, 3) := by decide +kernel
theorem dX6_read_25 : decode cX6_read 25 = .ok (.iconst (-1), 1) := by decide +kernel
theorem dX6_read_26 : decode cX6_read 26 = .ok (.ireturn, 1) := by decide +kernel
theorem dX6_read_27 : decode cX6_read 27 = .ok (.aload_n 0, 1) := by decide +kernel
theorem dX6_read_28 : decode cX6_read 28 = .ok (.getfield 61, 3) := by decide +kernel
theorem dX6_read_31 : decode cX6_read 31 = .ok (.iload_n 1, 1) := by decide +kernel
theorem dX6_read_32 : decode cX6_read 32 = .ok (.aaload, 1) := by decide +kernel
theorem dX6_read_33 : decode cX6_read 33 = .ok (.astore 5, 2) := by decide +kernel
theorem dX6_read_35 : decode cX6_read 35 = .ok (.aload_n 0, 1) := by decide +kernel
theorem dX6_read_36 : decode cX6_read 36 = .ok (.getfield 16, 3) := by decide +kernel
theorem dX6_read_39 : decode cX6_read 39 = .ok (.aload_n 0, 1) := by decide +kernel
theorem dX6_read_40 : decode cX6_read 40 = .ok (.getfield 12, 3) := by decide +kernel
theorem dX6_read_43 : decode cX6_read 43 = .ok (.invokevirtual 93, 3) := by decide +kernel
theorem dX6_read_46 : decode cX6_read 46 = .ok (.iconst 0, 1) := by decide +kernel
theorem dX6_read_47 : decode cX6_read 47 = .ok (.istore 6, 2) := by decide +kernel
theorem dX6_read_49 : decode cX6_read 49 = .ok (.iconst 0, 1) := by decide +kernel
theorem dX6_read_50 : decode cX6_read 50 = .ok (.istore 7, 2) := by decide +kernel
theorem dX6_read_52 : decode cX6_read 52 = .ok (.iconst 0, 1) := by decide +kernel
theorem dX6_read_53 : decode cX6_read 53 = .ok (.istore 8, 2) := by decide +kernel
theorem dX6_read_55 : decode cX6_read 55 = .ok (.iload 8, 2) := by decide +kernel
theorem dX6_read_57 : decode cX6_read 57 = .ok (.iload 4, 2) := by decide +kernel
theorem dX6_read_59 : decode cX6_read 59 = .ok (.if_icmp .ge 60, 3) := by decide +kernel
theorem dX6_read_62 : decode cX6_read 62 = .ok (.iload 6, 2) := by decide +kernel
theorem dX6_read_64 : decode cX6_read 64 = .ok (.ifCond .ne 55, 3) := by decide +kernel
theorem dX6_read_67 : decode cX6_read 67 = .ok (.iload_n 3, 1) := by decide +kernel
theorem dX6_read_68 : decode cX6_read 68 = .ok (.iconst 4, 1) := by decide +kernel
theorem dX6_read_69 : decode cX6_read 69 = .ok (.iload 8, 2) := by decide +kernel
theorem dX6_read_71 : decode cX6_read 71 = .ok (.imul, 1) := by decide +kernel
theorem dX6_read_72 : decode cX6_read 72 = .ok (.iadd, 1) := by decide +kernel
theorem dX6_read_73 : decode cX6_read 73 = .ok (.istore 9, 2) := by decide +kernel
theorem dX6_read_75 : decode cX6_read 75 = .ok (.aload 5, 2) := by decide +kernel
theorem dX6_read_77 : decode cX6_read 77 = .ok (.iload_n 2, 1) := by decide +kernel
theorem dX6_read_78 : decode cX6_read 78 = .ok (.iload 9, 2) := by decide +kernel
theorem dX6_read_80 : decode cX6_read 80 = .ok (.invokevirtual 303, 3) := by decide +kernel
theorem dX6_read_83 : decode cX6_read 83 = .ok (.istore 6, 2) := by decide +kernel
theorem dX6_read_85 : decode cX6_read 85 = .ok (.iload 6, 2) := by decide +kernel
theorem dX6_read_87 : decode cX6_read 87 = .ok (.ifCond .ne 26, 3) := by decide +kernel
theorem dX6_read_90 : decode cX6_read 90 = .ok (.aload 5, 2) := by decide +kernel
theorem dX6_read_92 : decode cX6_read 92 = .ok (.iload 9, 2) := by decide +kernel
theorem dX6_read_94 : decode cX6_read 94 = .ok (.aload_n 0, 1) := by decide +kernel
theorem dX6_read_95 : decode cX6_read 95 = .ok (.getfield 16, 3) := by decide +kernel
theorem dX6_read_98 : decode cX6_read 98 = .ok (.invokevirtual 306, 3) := by decide +kernel
theorem dX6_read_101 : decode cX6_read 101 = .ok (.ifCond .ne 9, 3) := by decide +kernel
theorem dX6_read_104 : decode cX6_read 104 = .ok (.bipush (-20), 2) := by decide +kernel
theorem dX6_read_106 : decode cX6_read 106 = .ok (.iload 8, 2) := by decide +kernel
theorem dX6_read_108 : decode cX6_read 108 = .ok (.isub, 1) := by decide +kernel
theorem dX6_read_109 : decode cX6_read 109 = .ok (.ireturn, 1) := by decide +kernel
theorem dX6_read_110 : decode cX6_read 110 = .ok (.iinc 7 1, 3) := by decide +kernel
theorem dX6_read_113 : decode cX6_read 113 = .ok (.iinc 8 1, 3) := by decide +kernel
theorem dX6_read_116 : decode cX6_read 116 = .ok (.goto (-61), 3) := by decide +kernel
theorem dX6_read_119 : decode cX6_read 119 = .ok (.aload_n 0, 1) := by decide +kernel
theorem dX6_read_120 : decode cX6_read 120 = .ok (.getfield 12, 3) := by decide +kernel
theorem dX6_read_123 : decode cX6_read 123 = .ok (.aload_n 0, 1) := by decide +kernel
theorem dX6_read_124 : decode cX6_read 124 = .ok (.getfield 16, 3) := by decide +kernel
theorem dX6_read_127 : decode cX6_read 127 = .ok (.invokevirtual 93, 3) := by decide +kernel
theorem dX6_read_130 : decode cX6_read 130 = .ok (.aload_n 0, 1) := by decide +kernel
theorem dX6_read_131 : decode cX6_read 131 = .ok (.iload 6, 2) := by decide +kernel
theorem dX6_read_133 : decode cX6_read 133 = .ok (.putfield 65, 3) := by decide +kernel
theorem dX6_read_136 : decode cX6_read 136 = .ok (.iload 7, 2) := by decide +kernel
theorem dX6_read_138 : decode cX6_read 138 = .ok (.ireturn, 1) := by decide +kernel
theorem dX6_torn_0 : decode cX6_torn 0 = .ok (.aload_n 0, 1) := by decide +kernel
theorem dX6_torn_1 : decode cX6_torn 1 = .ok (.getfield 65, 3) := by decide +kernel
theorem dX6_torn_4 : decode cX6_torn 4 = .ok (.ireturn, 1) := by decide +kernel
set_option maxRecDepth 20000 in
theorem ggX6_count_J6_bitCount_0f7a4 : GoodIn wsX6_count wsJ6_bitCount_0f7a4 := goodIn_r _ [9, 10, 11, 12] (by decide +kernel) (by decide +kernel)
set_option maxRecDepth 20000 in
theorem gX6_count_J6_bitCount_0f7a4 : GoodIn wsX6_count (va_wsS RX6 277 yJ6_bitCount_0f7a4 wsJ6_bitCount_0f7a4) := goodIn_app (goodIn_of _ (by decide +kernel)) ggX6_count_J6_bitCount_0f7a4
set_option maxRecDepth 20000 in
theorem ggX6_count_X6_sumOf : GoodIn wsX6_count wsX6_sumOf := goodIn_r _ [16] (by decide +kernel) (by decide +kernel)
set_option maxRecDepth 20000 in
theorem gX6_count_X6_sumOf : GoodIn wsX6_count (va_wsS RX6 115 yX6_sumOf wsX6_sumOf) := goodIn_app (goodIn_of _ (by decide +kernel)) ggX6_count_X6_sumOf
set_option maxRecDepth 20000 in
theorem ggX6_count_X0_feathersOfPlan : GoodIn wsX6_count wsX0_feathersOfPlan := goodIn_r _ [20, 21, 22, 49, 50, 51, 52, 53, 54, 55, 56, 57, 58, 59, 60, 61] (by decide +kernel) (by decide +kernel)
set_option maxRecDepth 20000 in
theorem gX6_count_X0_feathersOfPlan_n315 : GoodIn wsX6_count (wsX0_feathersOfPlan) := ggX6_count_X0_feathersOfPlan
theorem dX6_count_0 : decode cX6_count 0 = .ok (.iload_n 1, 1) := by decide +kernel
theorem dX6_count_1 : decode cX6_count 1 = .ok (.tableswitch 109 0 5 #[39, 47, 55, 63, 90, 101], 39) := by decide +kernel
theorem dX6_count_40 : decode cX6_count 40 = .ok (.aload_n 0, 1) := by decide +kernel
theorem dX6_count_41 : decode cX6_count 41 = .ok (.getfield 44, 3) := by decide +kernel
theorem dX6_count_44 : decode cX6_count 44 = .ok (.getfield 97, 3) := by decide +kernel
theorem dX6_count_47 : decode cX6_count 47 = .ok (.ireturn, 1) := by decide +kernel
theorem dX6_count_48 : decode cX6_count 48 = .ok (.aload_n 0, 1) := by decide +kernel
theorem dX6_count_49 : decode cX6_count 49 = .ok (.getfield 23, 3) := by decide +kernel
theorem dX6_count_52 : decode cX6_count 52 = .ok (.invokestatic 277, 3) := by decide +kernel
theorem dX6_count_55 : decode cX6_count 55 = .ok (.ireturn, 1) := by decide +kernel
theorem dX6_count_56 : decode cX6_count 56 = .ok (.aload_n 0, 1) := by decide +kernel
theorem dX6_count_57 : decode cX6_count 57 = .ok (.getfield 30, 3) := by decide +kernel
theorem dX6_count_60 : decode cX6_count 60 = .ok (.getfield 77, 3) := by decide +kernel
theorem dX6_count_63 : decode cX6_count 63 = .ok (.ireturn, 1) := by decide +kernel
theorem dX6_count_64 : decode cX6_count 64 = .ok (.aload_n 0, 1) := by decide +kernel
theorem dX6_count_65 : decode cX6_count 65 = .ok (.getfield 61, 3) := by decide +kernel
theorem dX6_count_68 : decode cX6_count 68 = .ok (.iconst 0, 1) := by decide +kernel
theorem dX6_count_69 : decode cX6_count 69 = .ok (.aaload, 1) := by decide +kernel
theorem dX6_count_70 : decode cX6_count 70 = .ok (.getfield 310, 3) := by decide +kernel
theorem dX6_count_73 : decode cX6_count 73 = .ok (.ifCond .eq 8, 3) := by decide +kernel
theorem dX6_count_76 : decode cX6_count 76 = .ok (.bipush (-4), 2) := by decide +kernel
theorem dX6_count_78 : decode cX6_count 78 = .ok (.goto 12, 3) := by decide +kernel
theorem dX6_count_81 : decode cX6_count 81 = .ok (.aload_n 0, 1) := by decide +kernel
theorem dX6_count_82 : decode cX6_count 82 = .ok (.getfield 61, 3) := by decide +kernel
theorem dX6_count_85 : decode cX6_count 85 = .ok (.iconst 0, 1) := by decide +kernel
theorem dX6_count_86 : decode cX6_count 86 = .ok (.aaload, 1) := by decide +kernel
theorem dX6_count_87 : decode cX6_count 87 = .ok (.getfield 314, 3) := by decide +kernel
theorem dX6_count_90 : decode cX6_count 90 = .ok (.ireturn, 1) := by decide +kernel
theorem dX6_count_91 : decode cX6_count 91 = .ok (.aload_n 0, 1) := by decide +kernel
theorem dX6_count_92 : decode cX6_count 92 = .ok (.getfield 12, 3) := by decide +kernel
theorem dX6_count_95 : decode cX6_count 95 = .ok (.getfield 171, 3) := by decide +kernel
theorem dX6_count_98 : decode cX6_count 98 = .ok (.invokestatic 115, 3) := by decide +kernel
theorem dX6_count_101 : decode cX6_count 101 = .ok (.ireturn, 1) := by decide +kernel
theorem dX6_count_102 : decode cX6_count 102 = .ok (.aload_n 0, 1) := by decide +kernel
theorem dX6_count_103 : decode cX6_count 103 = .ok (.getfield 12, 3) := by decide +kernel
theorem dX6_count_106 : decode cX6_count 106 = .ok (.invokevirtual 315, 3) := by decide +kernel
theorem dX6_count_109 : decode cX6_count 109 = .ok (.ireturn, 1) := by decide +kernel
theorem dX6_count_110 : decode cX6_count 110 = .ok (.iconst (-1), 1) := by decide +kernel
theorem dX6_count_111 : decode cX6_count 111 = .ok (.ireturn, 1) := by decide +kernel
theorem dX6_isWithin_0 : decode cX6_isWithin 0 = .ok (.iload_n 0, 1) := by decide +kernel
theorem dX6_isWithin_1 : decode cX6_isWithin 1 = .ok (.iload_n 1, 1) := by decide +kernel
theorem dX6_isWithin_2 : decode cX6_isWithin 2 = .ok (.if_icmp .lt 12, 3) := by decide +kernel
theorem dX6_isWithin_5 : decode cX6_isWithin 5 = .ok (.iload_n 0, 1) := by decide +kernel
theorem dX6_isWithin_6 : decode cX6_isWithin 6 = .ok (.iload_n 2, 1) := by decide +kernel
theorem dX6_isWithin_7 : decode cX6_isWithin 7 = .ok (.if_icmp .gt 7, 3) := by decide +kernel
theorem dX6_isWithin_10 : decode cX6_isWithin 10 = .ok (.iconst 1, 1) := by decide +kernel
theorem dX6_isWithin_11 : decode cX6_isWithin 11 = .ok (.goto 4, 3) := by decide +kernel
theorem dX6_isWithin_14 : decode cX6_isWithin 14 = .ok (.iconst 0, 1) := by decide +kernel
theorem dX6_isWithin_15 : decode cX6_isWithin 15 = .ok (.ireturn, 1) := by decide +kernel
set_option maxRecDepth 20000 in
theorem ggX6_isOwner_X6_isWithin : GoodIn wsX6_isOwner wsX6_isWithin := goodIn_r _ [4] (by decide +kernel) (by decide +kernel)
set_option maxRecDepth 20000 in
theorem gX6_isOwner_X6_isWithin : GoodIn wsX6_isOwner (va_wsS RX6 69 yX6_isWithin wsX6_isWithin) := goodIn_app (goodIn_of _ (by decide +kernel)) ggX6_isOwner_X6_isWithin
theorem dX6_isOwner_0 : decode cX6_isOwner 0 = .ok (.iload_n 0, 1) := by decide +kernel
theorem dX6_isOwner_1 : decode cX6_isOwner 1 = .ok (.iconst 0, 1) := by decide +kernel
theorem dX6_isOwner_2 : decode cX6_isOwner 2 = .ok (.iconst 4, 1) := by decide +kernel
theorem dX6_isOwner_3 : decode cX6_isOwner 3 = .ok (.invokestatic 69, 3) := by decide +kernel
theorem dX6_isOwner_6 : decode cX6_isOwner 6 = .ok (.ireturn, 1) := by decide +kernel
set_option maxRecDepth 20000 in
theorem ggX6_isSheet_X6_isWithin : GoodIn wsX6_isSheet wsX6_isWithin := goodIn_r _ [4] (by decide +kernel) (by decide +kernel)
set_option maxRecDepth 20000 in
theorem gX6_isSheet_X6_isWithin : GoodIn wsX6_isSheet (va_wsS RX6 69 yX6_isWithin wsX6_isWithin) := goodIn_app (goodIn_of _ (by decide +kernel)) ggX6_isSheet_X6_isWithin
theorem dX6_isSheet_0 : decode cX6_isSheet 0 = .ok (.iload_n 0, 1) := by decide +kernel
theorem dX6_isSheet_1 : decode cX6_isSheet 1 = .ok (.iconst 0, 1) := by decide +kernel
theorem dX6_isSheet_2 : decode cX6_isSheet 2 = .ok (.iconst 3, 1) := by decide +kernel
theorem dX6_isSheet_3 : decode cX6_isSheet 3 = .ok (.invokestatic 69, 3) := by decide +kernel
theorem dX6_isSheet_6 : decode cX6_isSheet 6 = .ok (.ireturn, 1) := by decide +kernel
set_option maxRecDepth 20000 in
theorem ggX6_isLane_X6_isWithin : GoodIn wsX6_isLane wsX6_isWithin := goodIn_r _ [4] (by decide +kernel) (by decide +kernel)
set_option maxRecDepth 20000 in
theorem gX6_isLane_X6_isWithin : GoodIn wsX6_isLane (va_wsS RX6 69 yX6_isWithin wsX6_isWithin) := goodIn_app (goodIn_of _ (by decide +kernel)) ggX6_isLane_X6_isWithin
theorem dX6_isLane_0 : decode cX6_isLane 0 = .ok (.iload_n 0, 1) := by decide +kernel
theorem dX6_isLane_1 : decode cX6_isLane 1 = .ok (.iconst 0, 1) := by decide +kernel
theorem dX6_isLane_2 : decode cX6_isLane 2 = .ok (.iconst 2, 1) := by decide +kernel
theorem dX6_isLane_3 : decode cX6_isLane 3 = .ok (.invokestatic 69, 3) := by decide +kernel
theorem dX6_isLane_6 : decode cX6_isLane 6 = .ok (.ireturn, 1) := by decide +kernel
set_option maxRecDepth 20000 in
theorem ggX6_areOdds_X6_isWithin : GoodIn wsX6_areOdds wsX6_isWithin := goodIn_r _ [4] (by decide +kernel) (by decide +kernel)
set_option maxRecDepth 20000 in
theorem gX6_areOdds_X6_isWithin : GoodIn wsX6_areOdds (va_wsS RX6 69 yX6_isWithin wsX6_isWithin) := goodIn_app (goodIn_of _ (by decide +kernel)) ggX6_areOdds_X6_isWithin
theorem dX6_areOdds_0 : decode cX6_areOdds 0 = .ok (.iload_n 0, 1) := by decide +kernel
theorem dX6_areOdds_1 : decode cX6_areOdds 1 = .ok (.iconst 0, 1) := by decide +kernel
theorem dX6_areOdds_2 : decode cX6_areOdds 2 = .ok (.bipush 10, 2) := by decide +kernel
theorem dX6_areOdds_4 : decode cX6_areOdds 4 = .ok (.invokestatic 69, 3) := by decide +kernel
theorem dX6_areOdds_7 : decode cX6_areOdds 7 = .ok (.ifCond .eq 17, 3) := by decide +kernel
theorem dX6_areOdds_10 : decode cX6_areOdds 10 = .ok (.iload_n 1, 1) := by decide +kernel
theorem dX6_areOdds_11 : decode cX6_areOdds 11 = .ok (.iconst 0, 1) := by decide +kernel
theorem dX6_areOdds_12 : decode cX6_areOdds 12 = .ok (.bipush 8, 2) := by decide +kernel
theorem dX6_areOdds_14 : decode cX6_areOdds 14 = .ok (.invokestatic 69, 3) := by decide +kernel
theorem dX6_areOdds_17 : decode cX6_areOdds 17 = .ok (.ifCond .eq 7, 3) := by decide +kernel
theorem dX6_areOdds_20 : decode cX6_areOdds 20 = .ok (.iconst 1, 1) := by decide +kernel
theorem dX6_areOdds_21 : decode cX6_areOdds 21 = .ok (.goto 4, 3) := by decide +kernel
theorem dX6_areOdds_24 : decode cX6_areOdds 24 = .ok (.iconst 0, 1) := by decide +kernel
theorem dX6_areOdds_25 : decode cX6_areOdds 25 = .ok (.ireturn, 1) := by decide +kernel
theorem dX6_sumOf_0 : decode cX6_sumOf 0 = .ok (.iconst 0, 1) := by decide +kernel
theorem dX6_sumOf_1 : decode cX6_sumOf 1 = .ok (.istore_n 1, 1) := by decide +kernel
theorem dX6_sumOf_2 : decode cX6_sumOf 2 = .ok (.aload_n 0, 1) := by decide +kernel
theorem dX6_sumOf_3 : decode cX6_sumOf 3 = .ok (.astore_n 2, 1) := by decide +kernel
theorem dX6_sumOf_4 : decode cX6_sumOf 4 = .ok (.aload_n 2, 1) := by decide +kernel
theorem dX6_sumOf_5 : decode cX6_sumOf 5 = .ok (.arraylength, 1) := by decide +kernel
theorem dX6_sumOf_6 : decode cX6_sumOf 6 = .ok (.istore_n 3, 1) := by decide +kernel
theorem dX6_sumOf_7 : decode cX6_sumOf 7 = .ok (.iconst 0, 1) := by decide +kernel
theorem dX6_sumOf_8 : decode cX6_sumOf 8 = .ok (.istore 4, 2) := by decide +kernel
theorem dX6_sumOf_10 : decode cX6_sumOf 10 = .ok (.iload 4, 2) := by decide +kernel
theorem dX6_sumOf_12 : decode cX6_sumOf 12 = .ok (.iload_n 3, 1) := by decide +kernel
theorem dX6_sumOf_13 : decode cX6_sumOf 13 = .ok (.if_icmp .ge 20, 3) := by decide +kernel
theorem dX6_sumOf_16 : decode cX6_sumOf 16 = .ok (.aload_n 2, 1) := by decide +kernel
theorem dX6_sumOf_17 : decode cX6_sumOf 17 = .ok (.iload 4, 2) := by decide +kernel
theorem dX6_sumOf_19 : decode cX6_sumOf 19 = .ok (.iaload, 1) := by decide +kernel
theorem dX6_sumOf_20 : decode cX6_sumOf 20 = .ok (.istore 5, 2) := by decide +kernel
theorem dX6_sumOf_22 : decode cX6_sumOf 22 = .ok (.iload_n 1, 1) := by decide +kernel
theorem dX6_sumOf_23 : decode cX6_sumOf 23 = .ok (.iload 5, 2) := by decide +kernel
theorem dX6_sumOf_25 : decode cX6_sumOf 25 = .ok (.iadd, 1) := by decide +kernel
theorem dX6_sumOf_26 : decode cX6_sumOf 26 = .ok (.istore_n 1, 1) := by decide +kernel
theorem dX6_sumOf_27 : decode cX6_sumOf 27 = .ok (.iinc 4 1, 3) := by decide +kernel
theorem dX6_sumOf_30 : decode cX6_sumOf 30 = .ok (.goto (-20), 3) := by decide +kernel
theorem dX6_sumOf_33 : decode cX6_sumOf 33 = .ok (.iload_n 1, 1) := by decide +kernel
theorem dX6_sumOf_34 : decode cX6_sumOf 34 = .ok (.ireturn, 1) := by decide +kernel
set_option maxRecDepth 20000 in
theorem ggX6_replaced_X6_isWithin : GoodIn wsX6_replaced wsX6_isWithin := goodIn_r _ [4] (by decide +kernel) (by decide +kernel)
set_option maxRecDepth 20000 in
theorem gX6_replaced_X6_isWithin : GoodIn wsX6_replaced (va_wsS RX6 69 yX6_isWithin wsX6_isWithin) := goodIn_app (goodIn_of _ (by decide +kernel)) ggX6_replaced_X6_isWithin
theorem dX6_replaced_0 : decode cX6_replaced 0 = .ok (.iload_n 1, 1) := by decide +kernel
theorem dX6_replaced_1 : decode cX6_replaced 1 = .ok (.iconst 0, 1) := by decide +kernel
theorem dX6_replaced_2 : decode cX6_replaced 2 = .ok (.aload_n 0, 1) := by decide +kernel
theorem dX6_replaced_3 : decode cX6_replaced 3 = .ok (.arraylength, 1) := by decide +kernel
theorem dX6_replaced_4 : decode cX6_replaced 4 = .ok (.iconst 1, 1) := by decide +kernel
theorem dX6_replaced_5 : decode cX6_replaced 5 = .ok (.isub, 1) := by decide +kernel
theorem dX6_replaced_6 : decode cX6_replaced 6 = .ok (.invokestatic 69, 3) := by decide +kernel
theorem dX6_replaced_9 : decode cX6_replaced 9 = .ok (.ifCond .ne 5, 3) := by decide +kernel
theorem dX6_replaced_12 : decode cX6_replaced 12 = .ok (.iconst (-1), 1) := by decide +kernel
theorem dX6_replaced_13 : decode cX6_replaced 13 = .ok (.ireturn, 1) := by decide +kernel
theorem dX6_replaced_14 : decode cX6_replaced 14 = .ok (.aload_n 0, 1) := by decide +kernel
theorem dX6_replaced_15 : decode cX6_replaced 15 = .ok (.iload_n 1, 1) := by decide +kernel
theorem dX6_replaced_16 : decode cX6_replaced 16 = .ok (.iaload, 1) := by decide +kernel
theorem dX6_replaced_17 : decode cX6_replaced 17 = .ok (.istore_n 3, 1) := by decide +kernel
theorem dX6_replaced_18 : decode cX6_replaced 18 = .ok (.aload_n 0, 1) := by decide +kernel
theorem dX6_replaced_19 : decode cX6_replaced 19 = .ok (.iload_n 1, 1) := by decide +kernel
theorem dX6_replaced_20 : decode cX6_replaced 20 = .ok (.iload_n 2, 1) := by decide +kernel
theorem dX6_replaced_21 : decode cX6_replaced 21 = .ok (.iastore, 1) := by decide +kernel
theorem dX6_replaced_22 : decode cX6_replaced 22 = .ok (.iload_n 3, 1) := by decide +kernel
theorem dX6_replaced_23 : decode cX6_replaced 23 = .ok (.ireturn, 1) := by decide +kernel
set_option maxRecDepth 20000 in
theorem ggX6_worthByPlanWithout_X0_copyFrom : GoodIn wsX6_worthByPlanWithout wsX0_copyFrom := goodIn_r _ [6, 7, 8, 9, 10, 11, 12, 13, 14, 15, 16, 17, 18, 19, 20, 21, 22, 23, 83, 84, 85, 86, 87, 88, 89, 90, 91, 92, 93, 94, 95] (by decide +kernel) (by decide +kernel)
set_option maxRecDepth 20000 in
theorem gX6_worthByPlanWithout_X0_copyFrom_n93 : GoodIn wsX6_worthByPlanWithout (wsX0_copyFrom) := ggX6_worthByPlanWithout_X0_copyFrom
set_option maxRecDepth 20000 in
theorem ggX6_worthByPlanWithout_X0_followPlanWithout : GoodIn wsX6_worthByPlanWithout wsX0_followPlanWithout := goodIn_r _ [26, 9, 27, 28, 29, 4, 30, 20, 21, 22, 23, 31, 32, 33, 34, 35, 36, 37, 38, 39, 40, 41, 42, 43, 44, 45, 46, 47, 48, 7, 49, 50, 51, 52, 16, 18, 53, 54, 55, 56, 57, 58, 59, 60, 17, 61, 62, 63, 64, 65, 66, 67, 68, 83, 84, 85, 86, 87, 88, 89, 90, 91, 92, 93, 94, 95] (by decide +kernel) (by decide +kernel)
set_option maxRecDepth 20000 in
theorem gX6_worthByPlanWithout_X0_followPlanWithout_n203 : GoodIn wsX6_worthByPlanWithout (wsX0_followPlanWithout) := ggX6_worthByPlanWithout_X0_followPlanWithout
set_option maxRecDepth 20000 in
theorem ggX6_worthByPlanWithout_X0_worth : GoodIn wsX6_worthByPlanWithout wsX0_worth := goodIn_r _ [71, 18, 7, 16, 57, 58, 59, 4, 60, 17, 83, 84, 85, 86, 87, 88, 89, 90, 91, 92, 93, 94, 95] (by decide +kernel) (by decide +kernel)
set_option maxRecDepth 20000 in
theorem gX6_worthByPlanWithout_X0_worth_n210 : GoodIn wsX6_worthByPlanWithout (wsX0_worth) := ggX6_worthByPlanWithout_X0_worth
theorem dX6_worthByPlanWithout_0 : decode cX6_worthByPlanWithout 0 = .ok (.aload_n 0, 1) := by decide +kernel
theorem dX6_worthByPlanWithout_1 : decode cX6_worthByPlanWithout 1 = .ok (.getfield 16, 3) := by decide +kernel
theorem dX6_worthByPlanWithout_4 : decode cX6_worthByPlanWithout 4 = .ok (.aload_n 0, 1) := by decide +kernel
theorem dX6_worthByPlanWithout_5 : decode cX6_worthByPlanWithout 5 = .ok (.getfield 12, 3) := by decide +kernel
theorem dX6_worthByPlanWithout_8 : decode cX6_worthByPlanWithout 8 = .ok (.invokevirtual 93, 3) := by decide +kernel
theorem dX6_worthByPlanWithout_11 : decode cX6_worthByPlanWithout 11 = .ok (.aload_n 0, 1) := by decide +kernel
theorem dX6_worthByPlanWithout_12 : decode cX6_worthByPlanWithout 12 = .ok (.getfield 16, 3) := by decide +kernel
theorem dX6_worthByPlanWithout_15 : decode cX6_worthByPlanWithout 15 = .ok (.iload_n 1, 1) := by decide +kernel
theorem dX6_worthByPlanWithout_16 : decode cX6_worthByPlanWithout 16 = .ok (.invokevirtual 203, 3) := by decide +kernel
theorem dX6_worthByPlanWithout_19 : decode cX6_worthByPlanWithout 19 = .ok (.aload_n 0, 1) := by decide +kernel
theorem dX6_worthByPlanWithout_20 : decode cX6_worthByPlanWithout 20 = .ok (.getfield 16, 3) := by decide +kernel
theorem dX6_worthByPlanWithout_23 : decode cX6_worthByPlanWithout 23 = .ok (.iload_n 2, 1) := by decide +kernel
theorem dX6_worthByPlanWithout_24 : decode cX6_worthByPlanWithout 24 = .ok (.invokevirtual 210, 3) := by decide +kernel
theorem dX6_worthByPlanWithout_27 : decode cX6_worthByPlanWithout 27 = .ok (.ireturn, 1) := by decide +kernel
set_option maxRecDepth 20000 in
theorem ggX6_kindsAsSeen_X0_copyFrom : GoodIn wsX6_kindsAsSeen wsX0_copyFrom := goodIn_r _ [7, 8, 9, 10, 11, 12, 13, 14, 15, 16, 17, 18, 19, 20, 21, 22, 23, 24, 74, 75, 76, 77, 78, 79, 80, 81, 82, 83, 84, 85, 86] (by decide +kernel) (by decide +kernel)
set_option maxRecDepth 20000 in
theorem gX6_kindsAsSeen_X0_copyFrom_n93 : GoodIn wsX6_kindsAsSeen (wsX0_copyFrom) := ggX6_kindsAsSeen_X0_copyFrom
set_option maxRecDepth 20000 in
theorem ggX6_kindsAsSeen_X3_agreeWith : GoodIn wsX6_kindsAsSeen wsX3_agreeWith := goodIn_r _ [28, 29, 30, 31, 26, 32, 33, 34, 35, 36, 37, 38, 5, 39, 40, 18, 41, 42, 43, 8, 20, 9, 44, 45, 46, 47, 16, 48, 49, 50, 51, 52, 11, 53, 54, 55, 56, 57, 58, 59, 60, 61, 62, 87, 88, 89, 90, 91, 74, 75, 76, 77, 78, 79, 80, 81, 82, 83, 84, 85, 86] (by decide +kernel) (by decide +kernel)
set_option maxRecDepth 20000 in
theorem gX6_kindsAsSeen_X3_agreeWith_n270 : GoodIn wsX6_kindsAsSeen (wsX3_agreeWith) := ggX6_kindsAsSeen_X3_agreeWith
theorem dX6_kindsAsSeen_0 : decode cX6_kindsAsSeen 0 = .ok (.iconst 0, 1) := by decide +kernel
theorem dX6_kindsAsSeen_1 : decode cX6_kindsAsSeen 1 = .ok (.istore_n 2, 1) := by decide +kernel
theorem dX6_kindsAsSeen_2 : decode cX6_kindsAsSeen 2 = .ok (.iconst 0, 1) := by decide +kernel
theorem dX6_kindsAsSeen_3 : decode cX6_kindsAsSeen 3 = .ok (.istore_n 3, 1) := by decide +kernel
theorem dX6_kindsAsSeen_4 : decode cX6_kindsAsSeen 4 = .ok (.iload_n 3, 1) := by decide +kernel
theorem dX6_kindsAsSeen_5 : decode cX6_kindsAsSeen 5 = .ok (.iconst 4, 1) := by decide +kernel
theorem dX6_kindsAsSeen_6 : decode cX6_kindsAsSeen 6 = .ok (.if_icmp .ge 50, 3) := by decide +kernel
theorem dX6_kindsAsSeen_9 : decode cX6_kindsAsSeen 9 = .ok (.aload_n 0, 1) := by decide +kernel
theorem dX6_kindsAsSeen_10 : decode cX6_kindsAsSeen 10 = .ok (.getfield 16, 3) := by decide +kernel
theorem dX6_kindsAsSeen_13 : decode cX6_kindsAsSeen 13 = .ok (.aload_n 0, 1) := by decide +kernel
theorem dX6_kindsAsSeen_14 : decode cX6_kindsAsSeen 14 = .ok (.getfield 12, 3) := by decide +kernel
theorem dX6_kindsAsSeen_17 : decode cX6_kindsAsSeen 17 = .ok (.invokevirtual 93, 3) := by decide +kernel
theorem dX6_kindsAsSeen_20 : decode cX6_kindsAsSeen 20 = .ok (.aload_n 0, 1) := by decide +kernel
theorem dX6_kindsAsSeen_21 : decode cX6_kindsAsSeen 21 = .ok (.getfield 16, 3) := by decide +kernel
theorem dX6_kindsAsSeen_24 : decode cX6_kindsAsSeen 24 = .ok (.getfield 129, 3) := by decide +kernel
theorem dX6_kindsAsSeen_27 : decode cX6_kindsAsSeen 27 = .ok (.iload_n 1, 1) := by decide +kernel
theorem dX6_kindsAsSeen_28 : decode cX6_kindsAsSeen 28 = .ok (.iload_n 3, 1) := by decide +kernel
theorem dX6_kindsAsSeen_29 : decode cX6_kindsAsSeen 29 = .ok (.iastore, 1) := by decide +kernel
theorem dX6_kindsAsSeen_30 : decode cX6_kindsAsSeen 30 = .ok (.aload_n 0, 1) := by decide +kernel
theorem dX6_kindsAsSeen_31 : decode cX6_kindsAsSeen 31 = .ok (.getfield 44, 3) := by decide +kernel
theorem dX6_kindsAsSeen_34 : decode cX6_kindsAsSeen 34 = .ok (.aload_n 0, 1) := by decide +kernel
theorem dX6_kindsAsSeen_35 : decode cX6_kindsAsSeen 35 = .ok (.getfield 16, 3) := by decide +kernel
theorem dX6_kindsAsSeen_38 : decode cX6_kindsAsSeen 38 = .ok (.invokevirtual 270, 3) := by decide +kernel
theorem dX6_kindsAsSeen_41 : decode cX6_kindsAsSeen 41 = .ok (.ifCond .eq 9, 3) := by decide +kernel
theorem dX6_kindsAsSeen_44 : decode cX6_kindsAsSeen 44 = .ok (.iload_n 2, 1) := by decide +kernel
theorem dX6_kindsAsSeen_45 : decode cX6_kindsAsSeen 45 = .ok (.iconst 1, 1) := by decide +kernel
theorem dX6_kindsAsSeen_46 : decode cX6_kindsAsSeen 46 = .ok (.iload_n 3, 1) := by decide +kernel
theorem dX6_kindsAsSeen_47 : decode cX6_kindsAsSeen 47 = .ok (.ishl, 1) := by decide +kernel
theorem dX6_kindsAsSeen_48 : decode cX6_kindsAsSeen 48 = .ok (.ior, 1) := by decide +kernel
theorem dX6_kindsAsSeen_49 : decode cX6_kindsAsSeen 49 = .ok (.istore_n 2, 1) := by decide +kernel
theorem dX6_kindsAsSeen_50 : decode cX6_kindsAsSeen 50 = .ok (.iinc 3 1, 3) := by decide +kernel
theorem dX6_kindsAsSeen_53 : decode cX6_kindsAsSeen 53 = .ok (.goto (-49), 3) := by decide +kernel
theorem dX6_kindsAsSeen_56 : decode cX6_kindsAsSeen 56 = .ok (.iload_n 2, 1) := by decide +kernel
theorem dX6_kindsAsSeen_57 : decode cX6_kindsAsSeen 57 = .ok (.ireturn, 1) := by decide +kernel
theorem dX6_placeByKind_0 : decode cX6_placeByKind 0 = .ok (.iload_n 0, 1) := by decide +kernel
theorem dX6_placeByKind_1 : decode cX6_placeByKind 1 = .ok (.bipush 21, 2) := by decide +kernel
theorem dX6_placeByKind_3 : decode cX6_placeByKind 3 = .ok (.imul, 1) := by decide +kernel
theorem dX6_placeByKind_4 : decode cX6_placeByKind 4 = .ok (.iload_n 1, 1) := by decide +kernel
theorem dX6_placeByKind_5 : decode cX6_placeByKind 5 = .ok (.iadd, 1) := by decide +kernel
theorem dX6_placeByKind_6 : decode cX6_placeByKind 6 = .ok (.iconst 5, 1) := by decide +kernel
theorem dX6_placeByKind_7 : decode cX6_placeByKind 7 = .ok (.imul, 1) := by decide +kernel
theorem dX6_placeByKind_8 : decode cX6_placeByKind 8 = .ok (.iload_n 2, 1) := by decide +kernel
theorem dX6_placeByKind_9 : decode cX6_placeByKind 9 = .ok (.iadd, 1) := by decide +kernel
theorem dX6_placeByKind_10 : decode cX6_placeByKind 10 = .ok (.ireturn, 1) := by decide +kernel
set_option maxRecDepth 20000 in
theorem ggX6_foretellByKind_X0_copyFrom : GoodIn wsX6_foretellByKind wsX0_copyFrom := goodIn_r _ [7, 8, 9, 10, 11, 12, 13, 14, 15, 16, 17, 18, 19, 20, 21, 22, 23, 24, 65, 66, 67, 68, 69, 70, 71, 72, 73, 74, 75, 76, 77] (by decide +kernel) (by decide +kernel)
set_option maxRecDepth 20000 in
theorem gX6_foretellByKind_X0_copyFrom_n93 : GoodIn wsX6_foretellByKind (wsX0_copyFrom) := ggX6_foretellByKind_X0_copyFrom
set_option maxRecDepth 20000 in
theorem ggX6_foretellByKind_X6_placeByKind : GoodIn wsX6_foretellByKind wsX6_placeByKind := goodIn_r _ [28] (by decide +kernel) (by decide +kernel)
set_option maxRecDepth 20000 in
theorem gX6_foretellByKind_X6_placeByKind : GoodIn wsX6_foretellByKind (va_wsS RX6 318 yX6_placeByKind wsX6_placeByKind) := goodIn_app (goodIn_of _ (by decide +kernel)) ggX6_foretellByKind_X6_placeByKind
set_option maxRecDepth 20000 in
theorem ggX6_foretellByKind_X0_held : GoodIn wsX6_foretellByKind wsX0_held := goodIn_r _ [31, 18, 65, 66, 67, 68, 69, 70, 71, 72, 73, 74, 75, 76, 77] (by decide +kernel) (by decide +kernel)
set_option maxRecDepth 20000 in
theorem gX6_foretellByKind_X0_held_n152 : GoodIn wsX6_foretellByKind (wsX0_held) := ggX6_foretellByKind_X0_held
set_option maxRecDepth 20000 in
theorem ggX6_foretellByKind_X0_passWeek : GoodIn wsX6_foretellByKind wsX0_passWeek := goodIn_r _ [34, 8, 20, 9, 35, 36, 37, 5, 38, 16, 39, 29, 30, 31, 18, 40, 41, 42, 43, 11, 44, 45, 46, 47, 48, 49, 50, 51, 52, 53, 65, 66, 67, 68, 69, 70, 71, 72, 73, 74, 75, 76, 77] (by decide +kernel) (by decide +kernel)
set_option maxRecDepth 20000 in
theorem gX6_foretellByKind_X0_passWeek_n207 : GoodIn wsX6_foretellByKind (wsX0_passWeek) := ggX6_foretellByKind_X0_passWeek
theorem dX6_foretellByKind_0 : decode cX6_foretellByKind 0 = .ok (.iconst 0, 1) := by decide +kernel
theorem dX6_foretellByKind_1 : decode cX6_foretellByKind 1 = .ok (.istore_n 2, 1) := by decide +kernel
theorem dX6_foretellByKind_2 : decode cX6_foretellByKind 2 = .ok (.iload_n 2, 1) := by decide +kernel
theorem dX6_foretellByKind_3 : decode cX6_foretellByKind 3 = .ok (.iconst 4, 1) := by decide +kernel
theorem dX6_foretellByKind_4 : decode cX6_foretellByKind 4 = .ok (.if_icmp .ge 89, 3) := by decide +kernel
theorem dX6_foretellByKind_7 : decode cX6_foretellByKind 7 = .ok (.aload_n 0, 1) := by decide +kernel
theorem dX6_foretellByKind_8 : decode cX6_foretellByKind 8 = .ok (.getfield 16, 3) := by decide +kernel
theorem dX6_foretellByKind_11 : decode cX6_foretellByKind 11 = .ok (.aload_n 0, 1) := by decide +kernel
theorem dX6_foretellByKind_12 : decode cX6_foretellByKind 12 = .ok (.getfield 12, 3) := by decide +kernel
theorem dX6_foretellByKind_15 : decode cX6_foretellByKind 15 = .ok (.invokevirtual 93, 3) := by decide +kernel
theorem dX6_foretellByKind_18 : decode cX6_foretellByKind 18 = .ok (.aload_n 0, 1) := by decide +kernel
theorem dX6_foretellByKind_19 : decode cX6_foretellByKind 19 = .ok (.getfield 16, 3) := by decide +kernel
theorem dX6_foretellByKind_22 : decode cX6_foretellByKind 22 = .ok (.getfield 129, 3) := by decide +kernel
theorem dX6_foretellByKind_25 : decode cX6_foretellByKind 25 = .ok (.iload_n 1, 1) := by decide +kernel
theorem dX6_foretellByKind_26 : decode cX6_foretellByKind 26 = .ok (.iload_n 2, 1) := by decide +kernel
theorem dX6_foretellByKind_27 : decode cX6_foretellByKind 27 = .ok (.iastore, 1) := by decide +kernel
theorem dX6_foretellByKind_28 : decode cX6_foretellByKind 28 = .ok (.iconst 0, 1) := by decide +kernel
theorem dX6_foretellByKind_29 : decode cX6_foretellByKind 29 = .ok (.istore_n 3, 1) := by decide +kernel
theorem dX6_foretellByKind_30 : decode cX6_foretellByKind 30 = .ok (.iload_n 3, 1) := by decide +kernel
theorem dX6_foretellByKind_31 : decode cX6_foretellByKind 31 = .ok (.bipush 20, 2) := by decide +kernel
theorem dX6_foretellByKind_33 : decode cX6_foretellByKind 33 = .ok (.if_icmp .gt 54, 3) := by decide +kernel
theorem dX6_foretellByKind_36 : decode cX6_foretellByKind 36 = .ok (.iconst 0, 1) := by decide +kernel
theorem dX6_foretellByKind_37 : decode cX6_foretellByKind 37 = .ok (.istore 4, 2) := by decide +kernel
theorem dX6_foretellByKind_39 : decode cX6_foretellByKind 39 = .ok (.iload 4, 2) := by decide +kernel
theorem dX6_foretellByKind_41 : decode cX6_foretellByKind 41 = .ok (.iconst 5, 1) := by decide +kernel
theorem dX6_foretellByKind_42 : decode cX6_foretellByKind 42 = .ok (.if_icmp .ge 31, 3) := by decide +kernel
theorem dX6_foretellByKind_45 : decode cX6_foretellByKind 45 = .ok (.aload_n 0, 1) := by decide +kernel
theorem dX6_foretellByKind_46 : decode cX6_foretellByKind 46 = .ok (.getfield 48, 3) := by decide +kernel
theorem dX6_foretellByKind_49 : decode cX6_foretellByKind 49 = .ok (.iload_n 2, 1) := by decide +kernel
theorem dX6_foretellByKind_50 : decode cX6_foretellByKind 50 = .ok (.iload_n 3, 1) := by decide +kernel
theorem dX6_foretellByKind_51 : decode cX6_foretellByKind 51 = .ok (.iload 4, 2) := by decide +kernel
theorem dX6_foretellByKind_53 : decode cX6_foretellByKind 53 = .ok (.invokestatic 318, 3) := by decide +kernel
theorem dX6_foretellByKind_56 : decode cX6_foretellByKind 56 = .ok (.aload_n 0, 1) := by decide +kernel
theorem dX6_foretellByKind_57 : decode cX6_foretellByKind 57 = .ok (.getfield 16, 3) := by decide +kernel
theorem dX6_foretellByKind_60 : decode cX6_foretellByKind 60 = .ok (.iload_n 1, 1) := by decide +kernel
theorem dX6_foretellByKind_61 : decode cX6_foretellByKind 61 = .ok (.iload 4, 2) := by decide +kernel
theorem dX6_foretellByKind_63 : decode cX6_foretellByKind 63 = .ok (.invokevirtual 152, 3) := by decide +kernel
theorem dX6_foretellByKind_66 : decode cX6_foretellByKind 66 = .ok (.iastore, 1) := by decide +kernel
theorem dX6_foretellByKind_67 : decode cX6_foretellByKind 67 = .ok (.iinc 4 1, 3) := by decide +kernel
theorem dX6_foretellByKind_70 : decode cX6_foretellByKind 70 = .ok (.goto (-31), 3) := by decide +kernel
theorem dX6_foretellByKind_73 : decode cX6_foretellByKind 73 = .ok (.aload_n 0, 1) := by decide +kernel
theorem dX6_foretellByKind_74 : decode cX6_foretellByKind 74 = .ok (.getfield 16, 3) := by decide +kernel
theorem dX6_foretellByKind_77 : decode cX6_foretellByKind 77 = .ok (.invokevirtual 207, 3) := by decide +kernel
theorem dX6_foretellByKind_80 : decode cX6_foretellByKind 80 = .ok (.pop, 1) := by decide +kernel
theorem dX6_foretellByKind_81 : decode cX6_foretellByKind 81 = .ok (.iinc 3 1, 3) := by decide +kernel
theorem dX6_foretellByKind_84 : decode cX6_foretellByKind 84 = .ok (.goto (-54), 3) := by decide +kernel
theorem dX6_foretellByKind_87 : decode cX6_foretellByKind 87 = .ok (.iinc 2 1, 3) := by decide +kernel
theorem dX6_foretellByKind_90 : decode cX6_foretellByKind 90 = .ok (.goto (-88), 3) := by decide +kernel
theorem dX6_foretellByKind_93 : decode cX6_foretellByKind 93 = .ok (.return_, 1) := by decide +kernel
set_option maxRecDepth 20000 in
theorem ggX6_mostKindsAlike_X6_placeByKind : GoodIn wsX6_mostKindsAlike wsX6_placeByKind := goodIn_r _ [9] (by decide +kernel) (by decide +kernel)
set_option maxRecDepth 20000 in
theorem gX6_mostKindsAlike_X6_placeByKind : GoodIn wsX6_mostKindsAlike (va_wsS RX6 318 yX6_placeByKind wsX6_placeByKind) := goodIn_app (goodIn_of _ (by decide +kernel)) ggX6_mostKindsAlike_X6_placeByKind
theorem dX6_mostKindsAlike_0 : decode cX6_mostKindsAlike 0 = .ok (.iconst 0, 1) := by decide +kernel
theorem dX6_mostKindsAlike_1 : decode cX6_mostKindsAlike 1 = .ok (.istore 4, 2) := by decide +kernel
theorem dX6_mostKindsAlike_3 : decode cX6_mostKindsAlike 3 = .ok (.iconst 0, 1) := by decide +kernel
theorem dX6_mostKindsAlike_4 : decode cX6_mostKindsAlike 4 = .ok (.istore 5, 2) := by decide +kernel
theorem dX6_mostKindsAlike_6 : decode cX6_mostKindsAlike 6 = .ok (.iload 5, 2) := by decide +kernel
theorem dX6_mostKindsAlike_8 : decode cX6_mostKindsAlike 8 = .ok (.iconst 4, 1) := by decide +kernel
theorem dX6_mostKindsAlike_9 : decode cX6_mostKindsAlike 9 = .ok (.if_icmp .ge 93, 3) := by decide +kernel
theorem dX6_mostKindsAlike_12 : decode cX6_mostKindsAlike 12 = .ok (.iconst 0, 1) := by decide +kernel
theorem dX6_mostKindsAlike_13 : decode cX6_mostKindsAlike 13 = .ok (.istore 6, 2) := by decide +kernel
theorem dX6_mostKindsAlike_15 : decode cX6_mostKindsAlike 15 = .ok (.iconst 0, 1) := by decide +kernel
theorem dX6_mostKindsAlike_16 : decode cX6_mostKindsAlike 16 = .ok (.istore 7, 2) := by decide +kernel
theorem dX6_mostKindsAlike_18 : decode cX6_mostKindsAlike 18 = .ok (.iload 7, 2) := by decide +kernel
theorem dX6_mostKindsAlike_20 : decode cX6_mostKindsAlike 20 = .ok (.iconst 4, 1) := by decide +kernel
theorem dX6_mostKindsAlike_21 : decode cX6_mostKindsAlike 21 = .ok (.if_icmp .ge 66, 3) := by decide +kernel
theorem dX6_mostKindsAlike_24 : decode cX6_mostKindsAlike 24 = .ok (.iload_n 1, 1) := by decide +kernel
theorem dX6_mostKindsAlike_25 : decode cX6_mostKindsAlike 25 = .ok (.iload 5, 2) := by decide +kernel
theorem dX6_mostKindsAlike_27 : decode cX6_mostKindsAlike 27 = .ok (.ishr, 1) := by decide +kernel
theorem dX6_mostKindsAlike_28 : decode cX6_mostKindsAlike 28 = .ok (.iload_n 1, 1) := by decide +kernel
theorem dX6_mostKindsAlike_29 : decode cX6_mostKindsAlike 29 = .ok (.iload 7, 2) := by decide +kernel
theorem dX6_mostKindsAlike_31 : decode cX6_mostKindsAlike 31 = .ok (.ishr, 1) := by decide +kernel
theorem dX6_mostKindsAlike_32 : decode cX6_mostKindsAlike 32 = .ok (.iand, 1) := by decide +kernel
theorem dX6_mostKindsAlike_33 : decode cX6_mostKindsAlike 33 = .ok (.iconst 1, 1) := by decide +kernel
theorem dX6_mostKindsAlike_34 : decode cX6_mostKindsAlike 34 = .ok (.iand, 1) := by decide +kernel
theorem dX6_mostKindsAlike_35 : decode cX6_mostKindsAlike 35 = .ok (.iconst 1, 1) := by decide +kernel
theorem dX6_mostKindsAlike_36 : decode cX6_mostKindsAlike 36 = .ok (.if_icmp .ne 7, 3) := by decide +kernel
theorem dX6_mostKindsAlike_39 : decode cX6_mostKindsAlike 39 = .ok (.iconst 1, 1) := by decide +kernel
theorem dX6_mostKindsAlike_40 : decode cX6_mostKindsAlike 40 = .ok (.goto 4, 3) := by decide +kernel
theorem dX6_mostKindsAlike_43 : decode cX6_mostKindsAlike 43 = .ok (.iconst 0, 1) := by decide +kernel
theorem dX6_mostKindsAlike_44 : decode cX6_mostKindsAlike 44 = .ok (.istore 8, 2) := by decide +kernel
theorem dX6_mostKindsAlike_46 : decode cX6_mostKindsAlike 46 = .ok (.iload 8, 2) := by decide +kernel
theorem dX6_mostKindsAlike_48 : decode cX6_mostKindsAlike 48 = .ok (.ifCond .eq 33, 3) := by decide +kernel
theorem dX6_mostKindsAlike_51 : decode cX6_mostKindsAlike 51 = .ok (.aload_n 0, 1) := by decide +kernel
theorem dX6_mostKindsAlike_52 : decode cX6_mostKindsAlike 52 = .ok (.getfield 48, 3) := by decide +kernel
theorem dX6_mostKindsAlike_55 : decode cX6_mostKindsAlike 55 = .ok (.iload 5, 2) := by decide +kernel
theorem dX6_mostKindsAlike_57 : decode cX6_mostKindsAlike 57 = .ok (.iload_n 2, 1) := by decide +kernel
theorem dX6_mostKindsAlike_58 : decode cX6_mostKindsAlike 58 = .ok (.iload_n 3, 1) := by decide +kernel
theorem dX6_mostKindsAlike_59 : decode cX6_mostKindsAlike 59 = .ok (.invokestatic 318, 3) := by decide +kernel
theorem dX6_mostKindsAlike_62 : decode cX6_mostKindsAlike 62 = .ok (.iaload, 1) := by decide +kernel
theorem dX6_mostKindsAlike_63 : decode cX6_mostKindsAlike 63 = .ok (.aload_n 0, 1) := by decide +kernel
theorem dX6_mostKindsAlike_64 : decode cX6_mostKindsAlike 64 = .ok (.getfield 48, 3) := by decide +kernel
theorem dX6_mostKindsAlike_67 : decode cX6_mostKindsAlike 67 = .ok (.iload 7, 2) := by decide +kernel
theorem dX6_mostKindsAlike_69 : decode cX6_mostKindsAlike 69 = .ok (.iload_n 2, 1) := by decide +kernel
theorem dX6_mostKindsAlike_70 : decode cX6_mostKindsAlike 70 = .ok (.iload_n 3, 1) := by decide +kernel
theorem dX6_mostKindsAlike_71 : decode cX6_mostKindsAlike 71 = .ok (.invokestatic 318, 3) := by decide +kernel
theorem dX6_mostKindsAlike_74 : decode cX6_mostKindsAlike 74 = .ok (.iaload, 1) := by decide +kernel
theorem dX6_mostKindsAlike_75 : decode cX6_mostKindsAlike 75 = .ok (.if_icmp .ne 6, 3) := by decide +kernel
theorem dX6_mostKindsAlike_78 : decode cX6_mostKindsAlike 78 = .ok (.iinc 6 1, 3) := by decide +kernel
theorem dX6_mostKindsAlike_81 : decode cX6_mostKindsAlike 81 = .ok (.iinc 7 1, 3) := by decide +kernel
theorem dX6_mostKindsAlike_84 : decode cX6_mostKindsAlike 84 = .ok (.goto (-66), 3) := by decide +kernel
theorem dX6_mostKindsAlike_87 : decode cX6_mostKindsAlike 87 = .ok (.iload 4, 2) := by decide +kernel
theorem dX6_mostKindsAlike_89 : decode cX6_mostKindsAlike 89 = .ok (.iload 6, 2) := by decide +kernel
theorem dX6_mostKindsAlike_91 : decode cX6_mostKindsAlike 91 = .ok (.invokestatic 243, 3) := by decide +kernel
theorem dX6_mostKindsAlike_94 : decode cX6_mostKindsAlike 94 = .ok (.istore 4, 2) := by decide +kernel
theorem dX6_mostKindsAlike_96 : decode cX6_mostKindsAlike 96 = .ok (.iinc 5 1, 3) := by decide +kernel
theorem dX6_mostKindsAlike_99 : decode cX6_mostKindsAlike 99 = .ok (.goto (-93), 3) := by decide +kernel
theorem dX6_mostKindsAlike_102 : decode cX6_mostKindsAlike 102 = .ok (.iload 4, 2) := by decide +kernel
theorem dX6_mostKindsAlike_104 : decode cX6_mostKindsAlike 104 = .ok (.ireturn, 1) := by decide +kernel
theorem dX6_raised_0 : decode cX6_raised 0 = .ok (.lconst 1, 1) := by decide +kernel
theorem dX6_raised_1 : decode cX6_raised 1 = .ok (.lstore_n 2, 1) := by decide +kernel
theorem dX6_raised_2 : decode cX6_raised 2 = .ok (.iconst 0, 1) := by decide +kernel
theorem dX6_raised_3 : decode cX6_raised 3 = .ok (.istore 4, 2) := by decide +kernel
theorem dX6_raised_5 : decode cX6_raised 5 = .ok (.iload 4, 2) := by decide +kernel
theorem dX6_raised_7 : decode cX6_raised 7 = .ok (.iload_n 1, 1) := by decide +kernel
theorem dX6_raised_8 : decode cX6_raised 8 = .ok (.if_icmp .ge 14, 3) := by decide +kernel
theorem dX6_raised_11 : decode cX6_raised 11 = .ok (.lload_n 2, 1) := by decide +kernel
theorem dX6_raised_12 : decode cX6_raised 12 = .ok (.iload_n 0, 1) := by decide +kernel
theorem dX6_raised_13 : decode cX6_raised 13 = .ok (.i2l, 1) := by decide +kernel
theorem dX6_raised_14 : decode cX6_raised 14 = .ok (.lmul, 1) := by decide +kernel
theorem dX6_raised_15 : decode cX6_raised 15 = .ok (.lstore_n 2, 1) := by decide +kernel
theorem dX6_raised_16 : decode cX6_raised 16 = .ok (.iinc 4 1, 3) := by decide +kernel
theorem dX6_raised_19 : decode cX6_raised 19 = .ok (.goto (-14), 3) := by decide +kernel
theorem dX6_raised_22 : decode cX6_raised 22 = .ok (.lload_n 2, 1) := by decide +kernel
theorem dX6_raised_23 : decode cX6_raised 23 = .ok (.lreturn, 1) := by decide +kernel
set_option maxRecDepth 20000 in
theorem ggX6_waysToMoult_X6_raised : GoodIn wsX6_waysToMoult wsX6_raised := goodIn_r _ [4] (by decide +kernel) (by decide +kernel)
set_option maxRecDepth 20000 in
theorem gX6_waysToMoult_X6_raised : GoodIn wsX6_waysToMoult (va_wsS RX6 260 yX6_raised wsX6_raised) := goodIn_app (goodIn_of _ (by decide +kernel)) ggX6_waysToMoult_X6_raised
theorem dX6_waysToMoult_0 : decode cX6_waysToMoult 0 = .ok (.lconst 1, 1) := by decide +kernel
theorem dX6_waysToMoult_1 : decode cX6_waysToMoult 1 = .ok (.lstore_n 3, 1) := by decide +kernel
theorem dX6_waysToMoult_2 : decode cX6_waysToMoult 2 = .ok (.iconst 1, 1) := by decide +kernel
theorem dX6_waysToMoult_3 : decode cX6_waysToMoult 3 = .ok (.istore 5, 2) := by decide +kernel
theorem dX6_waysToMoult_5 : decode cX6_waysToMoult 5 = .ok (.iload 5, 2) := by decide +kernel
theorem dX6_waysToMoult_7 : decode cX6_waysToMoult 7 = .ok (.iload_n 2, 1) := by decide +kernel
theorem dX6_waysToMoult_8 : decode cX6_waysToMoult 8 = .ok (.if_icmp .gt 23, 3) := by decide +kernel
theorem dX6_waysToMoult_11 : decode cX6_waysToMoult 11 = .ok (.lload_n 3, 1) := by decide +kernel
theorem dX6_waysToMoult_12 : decode cX6_waysToMoult 12 = .ok (.iload_n 1, 1) := by decide +kernel
theorem dX6_waysToMoult_13 : decode cX6_waysToMoult 13 = .ok (.iload_n 2, 1) := by decide +kernel
theorem dX6_waysToMoult_14 : decode cX6_waysToMoult 14 = .ok (.isub, 1) := by decide +kernel
theorem dX6_waysToMoult_15 : decode cX6_waysToMoult 15 = .ok (.iload 5, 2) := by decide +kernel
theorem dX6_waysToMoult_17 : decode cX6_waysToMoult 17 = .ok (.iadd, 1) := by decide +kernel
theorem dX6_waysToMoult_18 : decode cX6_waysToMoult 18 = .ok (.i2l, 1) := by decide +kernel
theorem dX6_waysToMoult_19 : decode cX6_waysToMoult 19 = .ok (.lmul, 1) := by decide +kernel
theorem dX6_waysToMoult_20 : decode cX6_waysToMoult 20 = .ok (.iload 5, 2) := by decide +kernel
theorem dX6_waysToMoult_22 : decode cX6_waysToMoult 22 = .ok (.i2l, 1) := by decide +kernel
theorem dX6_waysToMoult_23 : decode cX6_waysToMoult 23 = .ok (.ldiv, 1) := by decide +kernel
theorem dX6_waysToMoult_24 : decode cX6_waysToMoult 24 = .ok (.lstore_n 3, 1) := by decide +kernel
theorem dX6_waysToMoult_25 : decode cX6_waysToMoult 25 = .ok (.iinc 5 1, 3) := by decide +kernel
theorem dX6_waysToMoult_28 : decode cX6_waysToMoult 28 = .ok (.goto (-23), 3) := by decide +kernel
theorem dX6_waysToMoult_31 : decode cX6_waysToMoult 31 = .ok (.lload_n 3, 1) := by decide +kernel
theorem dX6_waysToMoult_32 : decode cX6_waysToMoult 32 = .ok (.iload_n 0, 1) := by decide +kernel
theorem dX6_waysToMoult_33 : decode cX6_waysToMoult 33 = .ok (.iload_n 2, 1) := by decide +kernel
theorem dX6_waysToMoult_34 : decode cX6_waysToMoult 34 = .ok (.invokestatic 260, 3) := by decide +kernel
theorem dX6_waysToMoult_37 : decode cX6_waysToMoult 37 = .ok (.lmul, 1) := by decide +kernel
theorem dX6_waysToMoult_38 : decode cX6_waysToMoult 38 = .ok (.bipush 10, 2) := by decide +kernel
theorem dX6_waysToMoult_40 : decode cX6_waysToMoult 40 = .ok (.iload_n 0, 1) := by decide +kernel
theorem dX6_waysToMoult_41 : decode cX6_waysToMoult 41 = .ok (.isub, 1) := by decide +kernel
theorem dX6_waysToMoult_42 : decode cX6_waysToMoult 42 = .ok (.iload_n 1, 1) := by decide +kernel
theorem dX6_waysToMoult_43 : decode cX6_waysToMoult 43 = .ok (.iload_n 2, 1) := by decide +kernel
theorem dX6_waysToMoult_44 : decode cX6_waysToMoult 44 = .ok (.isub, 1) := by decide +kernel
theorem dX6_waysToMoult_45 : decode cX6_waysToMoult 45 = .ok (.invokestatic 260, 3) := by decide +kernel
theorem dX6_waysToMoult_48 : decode cX6_waysToMoult 48 = .ok (.lmul, 1) := by decide +kernel
theorem dX6_waysToMoult_49 : decode cX6_waysToMoult 49 = .ok (.lreturn, 1) := by decide +kernel
set_option maxRecDepth 20000 in
theorem ggX6_partOfFraction_X6_commonDivisor : GoodIn wsX6_partOfFraction wsX6_commonDivisor := goodIn_r _ [8] (by decide +kernel) (by decide +kernel)
set_option maxRecDepth 20000 in
theorem gX6_partOfFraction_X6_commonDivisor : GoodIn wsX6_partOfFraction (va_wsS RX6 321 yX6_commonDivisor wsX6_commonDivisor) := goodIn_app (goodIn_of _ (by decide +kernel)) ggX6_partOfFraction_X6_commonDivisor
theorem dX6_partOfFraction_0 : decode cX6_partOfFraction 0 = .ok (.lconst 1, 1) := by decide +kernel
theorem dX6_partOfFraction_1 : decode cX6_partOfFraction 1 = .ok (.lload_n 0, 1) := by decide +kernel
theorem dX6_partOfFraction_2 : decode cX6_partOfFraction 2 = .ok (.lload_n 2, 1) := by decide +kernel
theorem dX6_partOfFraction_3 : decode cX6_partOfFraction 3 = .ok (.invokestatic 321, 3) := by decide +kernel
theorem dX6_partOfFraction_6 : decode cX6_partOfFraction 6 = .ok (.invokestatic 325, 3) := by decide +kernel
theorem dX6_partOfFraction_9 : decode cX6_partOfFraction 9 = .ok (.lstore 5, 2) := by decide +kernel
theorem dX6_partOfFraction_11 : decode cX6_partOfFraction 11 = .ok (.iload 4, 2) := by decide +kernel
theorem dX6_partOfFraction_13 : decode cX6_partOfFraction 13 = .ok (.ifCond .ne 7, 3) := by decide +kernel
theorem dX6_partOfFraction_16 : decode cX6_partOfFraction 16 = .ok (.lload_n 0, 1) := by decide +kernel
theorem dX6_partOfFraction_17 : decode cX6_partOfFraction 17 = .ok (.goto 4, 3) := by decide +kernel
theorem dX6_partOfFraction_20 : decode cX6_partOfFraction 20 = .ok (.lload_n 2, 1) := by decide +kernel
theorem dX6_partOfFraction_21 : decode cX6_partOfFraction 21 = .ok (.lload 5, 2) := by decide +kernel
theorem dX6_partOfFraction_23 : decode cX6_partOfFraction 23 = .ok (.ldiv, 1) := by decide +kernel
theorem dX6_partOfFraction_24 : decode cX6_partOfFraction 24 = .ok (.lreturn, 1) := by decide +kernel
theorem dX6_commonDivisor_0 : decode cX6_commonDivisor 0 = .ok (.lload_n 0, 1) := by decide +kernel
theorem dX6_commonDivisor_1 : decode cX6_commonDivisor 1 = .ok (.lstore 4, 2) := by decide +kernel
theorem dX6_commonDivisor_3 : decode cX6_commonDivisor 3 = .ok (.lload_n 2, 1) := by decide +kernel
theorem dX6_commonDivisor_4 : decode cX6_commonDivisor 4 = .ok (.lstore 6, 2) := by decide +kernel
theorem dX6_commonDivisor_6 : decode cX6_commonDivisor 6 = .ok (.iconst 0, 1) := by decide +kernel
theorem dX6_commonDivisor_7 : decode cX6_commonDivisor 7 = .ok (.istore 8, 2) := by decide +kernel
theorem dX6_commonDivisor_9 : decode cX6_commonDivisor 9 = .ok (.iload 8, 2) := by decide +kernel
theorem dX6_commonDivisor_11 : decode cX6_commonDivisor 11 = .ok (.sipush 200, 3) := by decide +kernel
theorem dX6_commonDivisor_14 : decode cX6_commonDivisor 14 = .ok (.if_icmp .ge 31, 3) := by decide +kernel
theorem dX6_commonDivisor_17 : decode cX6_commonDivisor 17 = .ok (.lload 6, 2) := by decide +kernel
theorem dX6_commonDivisor_19 : decode cX6_commonDivisor 19 = .ok (.lconst 0, 1) := by decide +kernel
theorem dX6_commonDivisor_20 : decode cX6_commonDivisor 20 = .ok (.lcmp, 1) := by decide +kernel
theorem dX6_commonDivisor_21 : decode cX6_commonDivisor 21 = .ok (.ifCond .eq 24, 3) := by decide +kernel
theorem dX6_commonDivisor_24 : decode cX6_commonDivisor 24 = .ok (.lload 4, 2) := by decide +kernel
theorem dX6_commonDivisor_26 : decode cX6_commonDivisor 26 = .ok (.lload 6, 2) := by decide +kernel
theorem dX6_commonDivisor_28 : decode cX6_commonDivisor 28 = .ok (.lrem, 1) := by decide +kernel
theorem dX6_commonDivisor_29 : decode cX6_commonDivisor 29 = .ok (.lstore 9, 2) := by decide +kernel
theorem dX6_commonDivisor_31 : decode cX6_commonDivisor 31 = .ok (.lload 6, 2) := by decide +kernel
theorem dX6_commonDivisor_33 : decode cX6_commonDivisor 33 = .ok (.lstore 4, 2) := by decide +kernel
theorem dX6_commonDivisor_35 : decode cX6_commonDivisor 35 = .ok (.lload 9, 2) := by decide +kernel
theorem dX6_commonDivisor_37 : decode cX6_commonDivisor 37 = .ok (.lstore 6, 2) := by decide +kernel
theorem dX6_commonDivisor_39 : decode cX6_commonDivisor 39 = .ok (.iinc 8 1, 3) := by decide +kernel
theorem dX6_commonDivisor_42 : decode cX6_commonDivisor 42 = .ok (.goto (-33), 3) := by decide +kernel
theorem dX6_commonDivisor_45 : decode cX6_commonDivisor 45 = .ok (.lload 4, 2) := by decide +kernel
theorem dX6_commonDivisor_47 : decode cX6_commonDivisor 47 = .ok (.lreturn, 1) := by decide +kernel
