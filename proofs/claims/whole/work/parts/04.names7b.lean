set_option maxRecDepth 20000 in
theorem ggX7_later_X7_isGoose : GoodIn wsX7_later wsX7_isGoose := goodIn_r _ [6, 7, 8, 9, 5, 10, 47, 48, 49, 50, 51, 52, 53, 54, 55, 56, 57, 58, 59, 60, 61, 62, 63, 64, 65, 66, 67, 68, 69, 70, 71, 72, 73, 74, 75, 76, 77, 78, 79, 80] (by decide +kernel) (by decide +kernel)
set_option maxRecDepth 20000 in
theorem gX7_later_X7_isGoose : GoodIn wsX7_later (wsV RX7 156 RX7 yX7_isGoose wsX7_isGoose) := goodIn_app (goodIn_of _ (by decide +kernel)) ggX7_later_X7_isGoose
set_option maxRecDepth 20000 in
theorem ggX7_later_X7_isOwner : GoodIn wsX7_later wsX7_isOwner := goodIn_r _ [13, 14, 8, 9, 5, 10] (by decide +kernel) (by decide +kernel)
set_option maxRecDepth 20000 in
theorem gX7_later_X7_isOwner : GoodIn wsX7_later (va_wsS RX7 166 yX7_isOwner wsX7_isOwner) := goodIn_app (goodIn_of _ (by decide +kernel)) ggX7_later_X7_isOwner
set_option maxRecDepth 20000 in
theorem ggX7_later_X7_in : GoodIn wsX7_later wsX7_in := goodIn_r _ [10] (by decide +kernel) (by decide +kernel)
set_option maxRecDepth 20000 in
theorem gX7_later_X7_in : GoodIn wsX7_later (va_wsS RX7 46 yX7_in wsX7_in) := goodIn_app (goodIn_of _ (by decide +kernel)) ggX7_later_X7_in
set_option maxRecDepth 20000 in
theorem ggX7_later_X7_weeksGo : GoodIn wsX7_later wsX7_weeksGo := goodIn_r _ [18, 19, 20, 21, 5, 22, 23, 24, 25, 26, 27, 7, 28, 29, 30, 31, 32, 33, 34, 35, 36, 37, 38, 39, 40, 41, 42, 43, 44, 45, 46, 47, 48, 49, 50, 51, 52, 53, 54, 55, 56, 57, 58, 59, 60, 61, 62, 63, 64, 65, 66, 67, 68, 69, 70, 71, 72, 73, 74, 75, 76, 77, 78, 79, 80] (by decide +kernel) (by decide +kernel)
set_option maxRecDepth 20000 in
theorem gX7_later_X7_weeksGo : GoodIn wsX7_later (wsV RX7 224 RX7 yX7_weeksGo wsX7_weeksGo) := goodIn_app (goodIn_of _ (by decide +kernel)) ggX7_later_X7_weeksGo
set_option maxRecDepth 20000 in
theorem ggX7_later_X7_shareOn : GoodIn wsX7_later wsX7_shareOn := goodIn_r _ [35, 23, 47, 48, 49, 50, 51, 52, 53, 54, 55, 56, 57, 58, 59, 60, 61, 62, 63, 64, 65, 66, 67, 68, 69, 70, 71, 72, 73, 74, 75, 76, 77, 78, 79, 80] (by decide +kernel) (by decide +kernel)
set_option maxRecDepth 20000 in
theorem gX7_later_X7_shareOn : GoodIn wsX7_later (wsV RX7 136 RX7 yX7_shareOn wsX7_shareOn) := goodIn_app (goodIn_of _ (by decide +kernel)) ggX7_later_X7_shareOn
theorem dX7_later_0 : decode cX7_later 0 = .ok (.aload_n 0, 1) := by decide +kernel
theorem dX7_later_1 : decode cX7_later 1 = .ok (.iload_n 1, 1) := by decide +kernel
theorem dX7_later_2 : decode cX7_later 2 = .ok (.invokevirtual 156, 3) := by decide +kernel
theorem dX7_later_5 : decode cX7_later 5 = .ok (.ifCond .eq 22, 3) := by decide +kernel
theorem dX7_later_8 : decode cX7_later 8 = .ok (.iload_n 2, 1) := by decide +kernel
theorem dX7_later_9 : decode cX7_later 9 = .ok (.invokestatic 166, 3) := by decide +kernel
theorem dX7_later_12 : decode cX7_later 12 = .ok (.ifCond .eq 15, 3) := by decide +kernel
theorem dX7_later_15 : decode cX7_later 15 = .ok (.iload_n 3, 1) := by decide +kernel
theorem dX7_later_16 : decode cX7_later 16 = .ok (.i2l, 1) := by decide +kernel
theorem dX7_later_17 : decode cX7_later 17 = .ok (.lconst 0, 1) := by decide +kernel
theorem dX7_later_18 : decode cX7_later 18 = .ok (.ldc2_w 222, 3) := by decide +kernel
theorem dX7_later_21 : decode cX7_later 21 = .ok (.invokestatic 46, 3) := by decide +kernel
theorem dX7_later_24 : decode cX7_later 24 = .ok (.ifCond .ne 5, 3) := by decide +kernel
theorem dX7_later_27 : decode cX7_later 27 = .ok (.iconst (-1), 1) := by decide +kernel
theorem dX7_later_28 : decode cX7_later 28 = .ok (.ireturn, 1) := by decide +kernel
theorem dX7_later_29 : decode cX7_later 29 = .ok (.aload_n 0, 1) := by decide +kernel
theorem dX7_later_30 : decode cX7_later 30 = .ok (.iload_n 3, 1) := by decide +kernel
theorem dX7_later_31 : decode cX7_later 31 = .ok (.invokevirtual 224, 3) := by decide +kernel
theorem dX7_later_34 : decode cX7_later 34 = .ok (.aload_n 0, 1) := by decide +kernel
theorem dX7_later_35 : decode cX7_later 35 = .ok (.sipush 240, 3) := by decide +kernel
theorem dX7_later_38 : decode cX7_later 38 = .ok (.iload_n 1, 1) := by decide +kernel
theorem dX7_later_39 : decode cX7_later 39 = .ok (.iload_n 2, 1) := by decide +kernel
theorem dX7_later_40 : decode cX7_later 40 = .ok (.invokevirtual 136, 3) := by decide +kernel
theorem dX7_later_43 : decode cX7_later 43 = .ok (.ireturn, 1) := by decide +kernel
set_option maxRecDepth 20000 in
theorem ggX7_eggs_X7_isOwner : GoodIn wsX7_eggs wsX7_isOwner := goodIn_r _ [6, 7, 8, 9, 5, 10] (by decide +kernel) (by decide +kernel)
set_option maxRecDepth 20000 in
theorem gX7_eggs_X7_isOwner : GoodIn wsX7_eggs (va_wsS RX7 166 yX7_isOwner wsX7_isOwner) := goodIn_app (goodIn_of _ (by decide +kernel)) ggX7_eggs_X7_isOwner
set_option maxRecDepth 20000 in
theorem ggX7_eggs_X7_in : GoodIn wsX7_eggs wsX7_in := goodIn_r _ [10] (by decide +kernel) (by decide +kernel)
set_option maxRecDepth 20000 in
theorem gX7_eggs_X7_in : GoodIn wsX7_eggs (va_wsS RX7 46 yX7_in wsX7_in) := goodIn_app (goodIn_of _ (by decide +kernel)) ggX7_eggs_X7_in
set_option maxRecDepth 20000 in
theorem ggX7_eggs_X7_weeksGo : GoodIn wsX7_eggs wsX7_weeksGo := goodIn_r _ [14, 15, 16, 17, 5, 18, 2, 19, 20, 21, 22, 23, 24, 25, 26, 27, 28, 29, 30, 31, 32, 33, 34, 35, 36, 37, 38, 39, 40, 41, 42, 43, 44, 45, 46, 47, 48, 49, 50, 51, 52, 53, 54, 55, 56, 57, 58, 59, 60, 61, 62, 63, 64, 65, 66, 67, 68, 69, 70, 71, 72, 73, 74, 75, 76] (by decide +kernel) (by decide +kernel)
set_option maxRecDepth 20000 in
theorem gX7_eggs_X7_weeksGo : GoodIn wsX7_eggs (wsV RX7 224 RX7 yX7_weeksGo wsX7_weeksGo) := goodIn_app (goodIn_of _ (by decide +kernel)) ggX7_eggs_X7_weeksGo
theorem dX7_eggs_0 : decode cX7_eggs 0 = .ok (.iload_n 1, 1) := by decide +kernel
theorem dX7_eggs_1 : decode cX7_eggs 1 = .ok (.invokestatic 166, 3) := by decide +kernel
theorem dX7_eggs_4 : decode cX7_eggs 4 = .ok (.ifCond .eq 15, 3) := by decide +kernel
theorem dX7_eggs_7 : decode cX7_eggs 7 = .ok (.iload_n 2, 1) := by decide +kernel
theorem dX7_eggs_8 : decode cX7_eggs 8 = .ok (.i2l, 1) := by decide +kernel
theorem dX7_eggs_9 : decode cX7_eggs 9 = .ok (.lconst 0, 1) := by decide +kernel
theorem dX7_eggs_10 : decode cX7_eggs 10 = .ok (.ldc2_w 222, 3) := by decide +kernel
theorem dX7_eggs_13 : decode cX7_eggs 13 = .ok (.invokestatic 46, 3) := by decide +kernel
theorem dX7_eggs_16 : decode cX7_eggs 16 = .ok (.ifCond .ne 5, 3) := by decide +kernel
theorem dX7_eggs_19 : decode cX7_eggs 19 = .ok (.iconst (-1), 1) := by decide +kernel
theorem dX7_eggs_20 : decode cX7_eggs 20 = .ok (.ireturn, 1) := by decide +kernel
theorem dX7_eggs_21 : decode cX7_eggs 21 = .ok (.aload_n 0, 1) := by decide +kernel
theorem dX7_eggs_22 : decode cX7_eggs 22 = .ok (.iload_n 2, 1) := by decide +kernel
theorem dX7_eggs_23 : decode cX7_eggs 23 = .ok (.invokevirtual 224, 3) := by decide +kernel
theorem dX7_eggs_26 : decode cX7_eggs 26 = .ok (.aload_n 0, 1) := by decide +kernel
theorem dX7_eggs_27 : decode cX7_eggs 27 = .ok (.getfield 7, 3) := by decide +kernel
theorem dX7_eggs_30 : decode cX7_eggs 30 = .ok (.sipush 254, 3) := by decide +kernel
theorem dX7_eggs_33 : decode cX7_eggs 33 = .ok (.iload_n 1, 1) := by decide +kernel
theorem dX7_eggs_34 : decode cX7_eggs 34 = .ok (.iadd, 1) := by decide +kernel
theorem dX7_eggs_35 : decode cX7_eggs 35 = .ok (.iaload, 1) := by decide +kernel
theorem dX7_eggs_36 : decode cX7_eggs 36 = .ok (.ireturn, 1) := by decide +kernel
set_option maxRecDepth 20000 in
theorem ggX7_bare_X7_isGoose : GoodIn wsX7_bare wsX7_isGoose := goodIn_r _ [6, 7, 8, 9, 5, 10, 39, 40, 41, 42, 43, 44, 45, 46, 47, 48, 49, 50, 51, 52, 53, 54, 55, 56, 57, 58, 59, 60, 61, 62, 63, 64, 65, 66, 67, 68, 69, 70, 71, 72] (by decide +kernel) (by decide +kernel)
set_option maxRecDepth 20000 in
theorem gX7_bare_X7_isGoose : GoodIn wsX7_bare (wsV RX7 156 RX7 yX7_isGoose wsX7_isGoose) := goodIn_app (goodIn_of _ (by decide +kernel)) ggX7_bare_X7_isGoose
set_option maxRecDepth 20000 in
theorem ggX7_bare_X7_in : GoodIn wsX7_bare wsX7_in := goodIn_r _ [10] (by decide +kernel) (by decide +kernel)
set_option maxRecDepth 20000 in
theorem gX7_bare_X7_in : GoodIn wsX7_bare (va_wsS RX7 46 yX7_in wsX7_in) := goodIn_app (goodIn_of _ (by decide +kernel)) ggX7_bare_X7_in
set_option maxRecDepth 20000 in
theorem ggX7_bare_X7_copies : GoodIn wsX7_bare wsX7_copies := goodIn_r _ [14, 15, 39, 40, 41, 42, 43, 44, 45, 46, 47, 48, 49, 50, 51, 52, 53, 54, 55, 56, 57, 58, 59, 60, 61, 62, 63, 64, 65, 66, 67, 68, 69, 70, 71, 72] (by decide +kernel) (by decide +kernel)
set_option maxRecDepth 20000 in
theorem gX7_bare_X7_copies : GoodIn wsX7_bare (wsV RX7 205 RX7 yX7_copies wsX7_copies) := goodIn_app (goodIn_of _ (by decide +kernel)) ggX7_bare_X7_copies
set_option maxRecDepth 20000 in
theorem ggX7_bare_X7_feathersOn : GoodIn wsX7_bare wsX7_feathersOn := goodIn_r _ [19, 20, 21, 22, 5, 23, 15, 39, 40, 41, 42, 43, 44, 45, 46, 47, 48, 49, 50, 51, 52, 53, 54, 55, 56, 57, 58, 59, 60, 61, 62, 63, 64, 65, 66, 67, 68, 69, 70, 71, 72] (by decide +kernel) (by decide +kernel)
set_option maxRecDepth 20000 in
theorem gX7_bare_X7_feathersOn : GoodIn wsX7_bare (wsV RX7 139 RX7 yX7_feathersOn wsX7_feathersOn) := goodIn_app (goodIn_of _ (by decide +kernel)) ggX7_bare_X7_feathersOn
set_option maxRecDepth 20000 in
theorem ggX7_bare_X7_weekOn : GoodIn wsX7_bare wsX7_weekOn := goodIn_r _ [27, 7, 15, 28, 29, 30, 5, 31, 20, 21, 22, 23, 16, 17, 18, 19, 32, 33, 34, 35, 36, 37, 38, 39, 40, 41, 42, 43, 44, 45, 46, 47, 48, 49, 50, 51, 52, 53, 54, 55, 56, 57, 58, 59, 60, 61, 62, 63, 64, 65, 66, 67, 68, 69, 70, 71, 72] (by decide +kernel) (by decide +kernel)
set_option maxRecDepth 20000 in
theorem gX7_bare_X7_weekOn : GoodIn wsX7_bare (wsV RX7 201 RX7 yX7_weekOn wsX7_weekOn) := goodIn_app (goodIn_of _ (by decide +kernel)) ggX7_bare_X7_weekOn
theorem dX7_bare_0 : decode cX7_bare 0 = .ok (.aload_n 0, 1) := by decide +kernel
theorem dX7_bare_1 : decode cX7_bare 1 = .ok (.iload_n 1, 1) := by decide +kernel
theorem dX7_bare_2 : decode cX7_bare 2 = .ok (.invokevirtual 156, 3) := by decide +kernel
theorem dX7_bare_5 : decode cX7_bare 5 = .ok (.ifCond .eq 15, 3) := by decide +kernel
theorem dX7_bare_8 : decode cX7_bare 8 = .ok (.iload_n 2, 1) := by decide +kernel
theorem dX7_bare_9 : decode cX7_bare 9 = .ok (.i2l, 1) := by decide +kernel
theorem dX7_bare_10 : decode cX7_bare 10 = .ok (.lconst 0, 1) := by decide +kernel
theorem dX7_bare_11 : decode cX7_bare 11 = .ok (.ldc2_w 227, 3) := by decide +kernel
theorem dX7_bare_14 : decode cX7_bare 14 = .ok (.invokestatic 46, 3) := by decide +kernel
theorem dX7_bare_17 : decode cX7_bare 17 = .ok (.ifCond .ne 5, 3) := by decide +kernel
theorem dX7_bare_20 : decode cX7_bare 20 = .ok (.iconst (-1), 1) := by decide +kernel
theorem dX7_bare_21 : decode cX7_bare 21 = .ok (.ireturn, 1) := by decide +kernel
theorem dX7_bare_22 : decode cX7_bare 22 = .ok (.aload_n 0, 1) := by decide +kernel
theorem dX7_bare_23 : decode cX7_bare 23 = .ok (.iconst 0, 1) := by decide +kernel
theorem dX7_bare_24 : decode cX7_bare 24 = .ok (.sipush 240, 3) := by decide +kernel
theorem dX7_bare_27 : decode cX7_bare 27 = .ok (.invokevirtual 205, 3) := by decide +kernel
theorem dX7_bare_30 : decode cX7_bare 30 = .ok (.iconst 0, 1) := by decide +kernel
theorem dX7_bare_31 : decode cX7_bare 31 = .ok (.istore_n 3, 1) := by decide +kernel
theorem dX7_bare_32 : decode cX7_bare 32 = .ok (.iload_n 3, 1) := by decide +kernel
theorem dX7_bare_33 : decode cX7_bare 33 = .ok (.bipush 60, 2) := by decide +kernel
theorem dX7_bare_35 : decode cX7_bare 35 = .ok (.if_icmp .gt 32, 3) := by decide +kernel
theorem dX7_bare_38 : decode cX7_bare 38 = .ok (.aload_n 0, 1) := by decide +kernel
theorem dX7_bare_39 : decode cX7_bare 39 = .ok (.sipush 240, 3) := by decide +kernel
theorem dX7_bare_42 : decode cX7_bare 42 = .ok (.iload_n 1, 1) := by decide +kernel
theorem dX7_bare_43 : decode cX7_bare 43 = .ok (.invokevirtual 139, 3) := by decide +kernel
theorem dX7_bare_46 : decode cX7_bare 46 = .ok (.iload_n 2, 1) := by decide +kernel
theorem dX7_bare_47 : decode cX7_bare 47 = .ok (.if_icmp .gt 5, 3) := by decide +kernel
theorem dX7_bare_50 : decode cX7_bare 50 = .ok (.iload_n 3, 1) := by decide +kernel
theorem dX7_bare_51 : decode cX7_bare 51 = .ok (.ireturn, 1) := by decide +kernel
theorem dX7_bare_52 : decode cX7_bare 52 = .ok (.aload_n 0, 1) := by decide +kernel
theorem dX7_bare_53 : decode cX7_bare 53 = .ok (.sipush 240, 3) := by decide +kernel
theorem dX7_bare_56 : decode cX7_bare 56 = .ok (.iconst 1, 1) := by decide +kernel
theorem dX7_bare_57 : decode cX7_bare 57 = .ok (.invokevirtual 201, 3) := by decide +kernel
theorem dX7_bare_60 : decode cX7_bare 60 = .ok (.pop, 1) := by decide +kernel
theorem dX7_bare_61 : decode cX7_bare 61 = .ok (.iinc 3 1, 3) := by decide +kernel
theorem dX7_bare_64 : decode cX7_bare 64 = .ok (.goto (-32), 3) := by decide +kernel
theorem dX7_bare_67 : decode cX7_bare 67 = .ok (.bipush (-4), 2) := by decide +kernel
theorem dX7_bare_69 : decode cX7_bare 69 = .ok (.ireturn, 1) := by decide +kernel
set_option maxRecDepth 20000 in
theorem ggX7_rich_X7_in : GoodIn wsX7_rich wsX7_in := goodIn_r _ [5] (by decide +kernel) (by decide +kernel)
set_option maxRecDepth 20000 in
theorem gX7_rich_X7_in : GoodIn wsX7_rich (va_wsS RX7 46 yX7_in wsX7_in) := goodIn_app (goodIn_of _ (by decide +kernel)) ggX7_rich_X7_in
set_option maxRecDepth 20000 in
theorem ggX7_rich_X7_weeksGo : GoodIn wsX7_rich wsX7_weeksGo := goodIn_r _ [9, 10, 11, 12, 4, 13, 14, 15, 16, 17, 18, 19, 20, 21, 22, 23, 24, 25, 26, 27, 28, 29, 30, 31, 32, 33, 34, 35, 36, 37, 38, 47, 48, 49, 50, 51, 52, 53, 54, 55, 56, 57, 58, 59, 60, 61, 62, 63, 64, 65, 66, 67, 68, 69, 70, 71, 72, 73, 74, 75, 76, 77, 78, 79, 80] (by decide +kernel) (by decide +kernel)
set_option maxRecDepth 20000 in
theorem gX7_rich_X7_weeksGo : GoodIn wsX7_rich (wsV RX7 224 RX7 yX7_weeksGo wsX7_weeksGo) := goodIn_app (goodIn_of _ (by decide +kernel)) ggX7_rich_X7_weeksGo
set_option maxRecDepth 20000 in
theorem ggX7_rich_X7_worthOn : GoodIn wsX7_rich wsX7_worthOn := goodIn_r _ [42, 19, 14, 43, 44, 45, 4, 46, 24, 25, 26, 27, 47, 48, 49, 50, 51, 52, 53, 54, 55, 56, 57, 58, 59, 60, 61, 62, 63, 64, 65, 66, 67, 68, 69, 70, 71, 72, 73, 74, 75, 76, 77, 78, 79, 80] (by decide +kernel) (by decide +kernel)
set_option maxRecDepth 20000 in
theorem gX7_rich_X7_worthOn : GoodIn wsX7_rich (wsV RX7 160 RX7 yX7_worthOn wsX7_worthOn) := goodIn_app (goodIn_of _ (by decide +kernel)) ggX7_rich_X7_worthOn
theorem dX7_rich_0 : decode cX7_rich 0 = .ok (.iload_n 1, 1) := by decide +kernel
theorem dX7_rich_1 : decode cX7_rich 1 = .ok (.i2l, 1) := by decide +kernel
theorem dX7_rich_2 : decode cX7_rich 2 = .ok (.lconst 0, 1) := by decide +kernel
theorem dX7_rich_3 : decode cX7_rich 3 = .ok (.ldc2_w 222, 3) := by decide +kernel
theorem dX7_rich_6 : decode cX7_rich 6 = .ok (.invokestatic 46, 3) := by decide +kernel
theorem dX7_rich_9 : decode cX7_rich 9 = .ok (.ifCond .eq 13, 3) := by decide +kernel
theorem dX7_rich_12 : decode cX7_rich 12 = .ok (.iload_n 2, 1) := by decide +kernel
theorem dX7_rich_13 : decode cX7_rich 13 = .ok (.i2l, 1) := by decide +kernel
theorem dX7_rich_14 : decode cX7_rich 14 = .ok (.lconst 0, 1) := by decide +kernel
theorem dX7_rich_15 : decode cX7_rich 15 = .ok (.lconst 1, 1) := by decide +kernel
theorem dX7_rich_16 : decode cX7_rich 16 = .ok (.invokestatic 46, 3) := by decide +kernel
theorem dX7_rich_19 : decode cX7_rich 19 = .ok (.ifCond .ne 5, 3) := by decide +kernel
theorem dX7_rich_22 : decode cX7_rich 22 = .ok (.iconst (-1), 1) := by decide +kernel
theorem dX7_rich_23 : decode cX7_rich 23 = .ok (.ireturn, 1) := by decide +kernel
theorem dX7_rich_24 : decode cX7_rich 24 = .ok (.aload_n 0, 1) := by decide +kernel
theorem dX7_rich_25 : decode cX7_rich 25 = .ok (.iload_n 1, 1) := by decide +kernel
theorem dX7_rich_26 : decode cX7_rich 26 = .ok (.invokevirtual 224, 3) := by decide +kernel
theorem dX7_rich_29 : decode cX7_rich 29 = .ok (.iconst 0, 1) := by decide +kernel
theorem dX7_rich_30 : decode cX7_rich 30 = .ok (.istore_n 3, 1) := by decide +kernel
theorem dX7_rich_31 : decode cX7_rich 31 = .ok (.iconst 1, 1) := by decide +kernel
theorem dX7_rich_32 : decode cX7_rich 32 = .ok (.istore 4, 2) := by decide +kernel
theorem dX7_rich_34 : decode cX7_rich 34 = .ok (.iload 4, 2) := by decide +kernel
theorem dX7_rich_36 : decode cX7_rich 36 = .ok (.iconst 5, 1) := by decide +kernel
theorem dX7_rich_37 : decode cX7_rich 37 = .ok (.if_icmp .ge 36, 3) := by decide +kernel
theorem dX7_rich_40 : decode cX7_rich 40 = .ok (.aload_n 0, 1) := by decide +kernel
theorem dX7_rich_41 : decode cX7_rich 41 = .ok (.sipush 240, 3) := by decide +kernel
theorem dX7_rich_44 : decode cX7_rich 44 = .ok (.iload 4, 2) := by decide +kernel
theorem dX7_rich_46 : decode cX7_rich 46 = .ok (.invokevirtual 160, 3) := by decide +kernel
theorem dX7_rich_49 : decode cX7_rich 49 = .ok (.aload_n 0, 1) := by decide +kernel
theorem dX7_rich_50 : decode cX7_rich 50 = .ok (.sipush 240, 3) := by decide +kernel
theorem dX7_rich_53 : decode cX7_rich 53 = .ok (.iload_n 3, 1) := by decide +kernel
theorem dX7_rich_54 : decode cX7_rich 54 = .ok (.invokevirtual 160, 3) := by decide +kernel
theorem dX7_rich_57 : decode cX7_rich 57 = .ok (.if_icmp .le 8, 3) := by decide +kernel
theorem dX7_rich_60 : decode cX7_rich 60 = .ok (.iload 4, 2) := by decide +kernel
theorem dX7_rich_62 : decode cX7_rich 62 = .ok (.goto 4, 3) := by decide +kernel
theorem dX7_rich_65 : decode cX7_rich 65 = .ok (.iload_n 3, 1) := by decide +kernel
theorem dX7_rich_66 : decode cX7_rich 66 = .ok (.istore_n 3, 1) := by decide +kernel
theorem dX7_rich_67 : decode cX7_rich 67 = .ok (.iinc 4 1, 3) := by decide +kernel
theorem dX7_rich_70 : decode cX7_rich 70 = .ok (.goto (-36), 3) := by decide +kernel
theorem dX7_rich_73 : decode cX7_rich 73 = .ok (.iload_n 2, 1) := by decide +kernel
theorem dX7_rich_74 : decode cX7_rich 74 = .ok (.ifCond .ne 7, 3) := by decide +kernel
theorem dX7_rich_77 : decode cX7_rich 77 = .ok (.iload_n 3, 1) := by decide +kernel
theorem dX7_rich_78 : decode cX7_rich 78 = .ok (.goto 11, 3) := by decide +kernel
theorem dX7_rich_81 : decode cX7_rich 81 = .ok (.aload_n 0, 1) := by decide +kernel
theorem dX7_rich_82 : decode cX7_rich 82 = .ok (.sipush 240, 3) := by decide +kernel
theorem dX7_rich_85 : decode cX7_rich 85 = .ok (.iload_n 3, 1) := by decide +kernel
theorem dX7_rich_86 : decode cX7_rich 86 = .ok (.invokevirtual 160, 3) := by decide +kernel
theorem dX7_rich_89 : decode cX7_rich 89 = .ok (.ireturn, 1) := by decide +kernel
set_option maxRecDepth 20000 in
theorem ggX7_turn_X7_isGoose : GoodIn wsX7_turn wsX7_isGoose := goodIn_r _ [5, 6, 7, 8, 4, 9, 38, 39, 40, 41, 42, 43, 44, 45, 46, 47, 48, 49, 50, 51, 52, 53, 54, 55, 56, 57, 58, 59, 60, 61, 62, 63, 64, 65, 66, 67, 68, 69, 70, 71] (by decide +kernel) (by decide +kernel)
set_option maxRecDepth 20000 in
theorem gX7_turn_X7_isGoose : GoodIn wsX7_turn (wsV RX7 156 RX7 yX7_isGoose wsX7_isGoose) := goodIn_app (goodIn_of _ (by decide +kernel)) ggX7_turn_X7_isGoose
set_option maxRecDepth 20000 in
theorem ggX7_turn_X7_eggOn : GoodIn wsX7_turn wsX7_eggOn := goodIn_r _ [13, 14, 15, 16, 17, 4, 18, 19, 20, 21, 22, 38, 39, 40, 41, 42, 43, 44, 45, 46, 47, 48, 49, 50, 51, 52, 53, 54, 55, 56, 57, 58, 59, 60, 61, 62, 63, 64, 65, 66, 67, 68, 69, 70, 71] (by decide +kernel) (by decide +kernel)
set_option maxRecDepth 20000 in
theorem gX7_turn_X7_eggOn : GoodIn wsX7_turn (wsV RX7 143 RX7 yX7_eggOn wsX7_eggOn) := goodIn_app (goodIn_of _ (by decide +kernel)) ggX7_turn_X7_eggOn
set_option maxRecDepth 20000 in
theorem ggX7_turn_X7_copies : GoodIn wsX7_turn wsX7_copies := goodIn_r _ [26, 14, 38, 39, 40, 41, 42, 43, 44, 45, 46, 47, 48, 49, 50, 51, 52, 53, 54, 55, 56, 57, 58, 59, 60, 61, 62, 63, 64, 65, 66, 67, 68, 69, 70, 71] (by decide +kernel) (by decide +kernel)
set_option maxRecDepth 20000 in
theorem gX7_turn_X7_copies : GoodIn wsX7_turn (wsV RX7 205 RX7 yX7_copies wsX7_copies) := goodIn_app (goodIn_of _ (by decide +kernel)) ggX7_turn_X7_copies
set_option maxRecDepth 20000 in
theorem ggX7_turn_X7_weekOn : GoodIn wsX7_turn wsX7_weekOn := goodIn_r _ [30, 6, 14, 10, 11, 12, 4, 13, 15, 16, 17, 18, 19, 20, 21, 22, 31, 32, 33, 34, 35, 36, 37, 38, 39, 40, 41, 42, 43, 44, 45, 46, 47, 48, 49, 50, 51, 52, 53, 54, 55, 56, 57, 58, 59, 60, 61, 62, 63, 64, 65, 66, 67, 68, 69, 70, 71] (by decide +kernel) (by decide +kernel)
set_option maxRecDepth 20000 in
theorem gX7_turn_X7_weekOn : GoodIn wsX7_turn (wsV RX7 201 RX7 yX7_weekOn wsX7_weekOn) := goodIn_app (goodIn_of _ (by decide +kernel)) ggX7_turn_X7_weekOn
theorem dX7_turn_0 : decode cX7_turn 0 = .ok (.aload_n 0, 1) := by decide +kernel
theorem dX7_turn_1 : decode cX7_turn 1 = .ok (.iload_n 1, 1) := by decide +kernel
theorem dX7_turn_2 : decode cX7_turn 2 = .ok (.invokevirtual 156, 3) := by decide +kernel
theorem dX7_turn_5 : decode cX7_turn 5 = .ok (.ifCond .ne 5, 3) := by decide +kernel
theorem dX7_turn_8 : decode cX7_turn 8 = .ok (.iconst (-1), 1) := by decide +kernel
theorem dX7_turn_9 : decode cX7_turn 9 = .ok (.ireturn, 1) := by decide +kernel
theorem dX7_turn_10 : decode cX7_turn 10 = .ok (.aload_n 0, 1) := by decide +kernel
theorem dX7_turn_11 : decode cX7_turn 11 = .ok (.iconst 0, 1) := by decide +kernel
theorem dX7_turn_12 : decode cX7_turn 12 = .ok (.iload_n 1, 1) := by decide +kernel
theorem dX7_turn_13 : decode cX7_turn 13 = .ok (.invokevirtual 143, 3) := by decide +kernel
theorem dX7_turn_16 : decode cX7_turn 16 = .ok (.istore_n 2, 1) := by decide +kernel
theorem dX7_turn_17 : decode cX7_turn 17 = .ok (.aload_n 0, 1) := by decide +kernel
theorem dX7_turn_18 : decode cX7_turn 18 = .ok (.iconst 0, 1) := by decide +kernel
theorem dX7_turn_19 : decode cX7_turn 19 = .ok (.sipush 240, 3) := by decide +kernel
theorem dX7_turn_22 : decode cX7_turn 22 = .ok (.invokevirtual 205, 3) := by decide +kernel
theorem dX7_turn_25 : decode cX7_turn 25 = .ok (.iconst 1, 1) := by decide +kernel
theorem dX7_turn_26 : decode cX7_turn 26 = .ok (.istore_n 3, 1) := by decide +kernel
theorem dX7_turn_27 : decode cX7_turn 27 = .ok (.iload_n 3, 1) := by decide +kernel
theorem dX7_turn_28 : decode cX7_turn 28 = .ok (.bipush 60, 2) := by decide +kernel
theorem dX7_turn_30 : decode cX7_turn 30 = .ok (.if_icmp .gt 32, 3) := by decide +kernel
theorem dX7_turn_33 : decode cX7_turn 33 = .ok (.aload_n 0, 1) := by decide +kernel
theorem dX7_turn_34 : decode cX7_turn 34 = .ok (.sipush 240, 3) := by decide +kernel
theorem dX7_turn_37 : decode cX7_turn 37 = .ok (.iconst 1, 1) := by decide +kernel
theorem dX7_turn_38 : decode cX7_turn 38 = .ok (.invokevirtual 201, 3) := by decide +kernel
theorem dX7_turn_41 : decode cX7_turn 41 = .ok (.pop, 1) := by decide +kernel
theorem dX7_turn_42 : decode cX7_turn 42 = .ok (.aload_n 0, 1) := by decide +kernel
theorem dX7_turn_43 : decode cX7_turn 43 = .ok (.sipush 240, 3) := by decide +kernel
theorem dX7_turn_46 : decode cX7_turn 46 = .ok (.iload_n 1, 1) := by decide +kernel
theorem dX7_turn_47 : decode cX7_turn 47 = .ok (.invokevirtual 143, 3) := by decide +kernel
theorem dX7_turn_50 : decode cX7_turn 50 = .ok (.iload_n 2, 1) := by decide +kernel
theorem dX7_turn_51 : decode cX7_turn 51 = .ok (.if_icmp .eq 5, 3) := by decide +kernel
theorem dX7_turn_54 : decode cX7_turn 54 = .ok (.iload_n 3, 1) := by decide +kernel
theorem dX7_turn_55 : decode cX7_turn 55 = .ok (.ireturn, 1) := by decide +kernel
theorem dX7_turn_56 : decode cX7_turn 56 = .ok (.iinc 3 1, 3) := by decide +kernel
theorem dX7_turn_59 : decode cX7_turn 59 = .ok (.goto (-32), 3) := by decide +kernel
theorem dX7_turn_62 : decode cX7_turn 62 = .ok (.bipush (-4), 2) := by decide +kernel
theorem dX7_turn_64 : decode cX7_turn 64 = .ok (.ireturn, 1) := by decide +kernel
set_option maxRecDepth 20000 in
theorem ggX7_need_X7_isOwner : GoodIn wsX7_need wsX7_isOwner := goodIn_r _ [5, 6, 7, 8, 4, 9] (by decide +kernel) (by decide +kernel)
set_option maxRecDepth 20000 in
theorem gX7_need_X7_isOwner : GoodIn wsX7_need (va_wsS RX7 166 yX7_isOwner wsX7_isOwner) := goodIn_app (goodIn_of _ (by decide +kernel)) ggX7_need_X7_isOwner
set_option maxRecDepth 20000 in
theorem ggX7_need_X7_isGoose : GoodIn wsX7_need wsX7_isGoose := goodIn_r _ [13, 14, 7, 8, 4, 9, 43, 44, 45, 46, 47, 48, 49, 50, 51, 52, 53, 54, 55, 56, 57, 58, 59, 60, 61, 62, 63, 64, 65, 66, 67, 68, 69, 70, 71, 72, 73, 74, 75, 76] (by decide +kernel) (by decide +kernel)
set_option maxRecDepth 20000 in
theorem gX7_need_X7_isGoose : GoodIn wsX7_need (wsV RX7 156 RX7 yX7_isGoose wsX7_isGoose) := goodIn_app (goodIn_of _ (by decide +kernel)) ggX7_need_X7_isGoose
set_option maxRecDepth 20000 in
theorem ggX7_need_X7_in : GoodIn wsX7_need wsX7_in := goodIn_r _ [9] (by decide +kernel) (by decide +kernel)
set_option maxRecDepth 20000 in
theorem gX7_need_X7_in : GoodIn wsX7_need (va_wsS RX7 46 yX7_in wsX7_in) := goodIn_app (goodIn_of _ (by decide +kernel)) ggX7_need_X7_in
set_option maxRecDepth 20000 in
theorem ggX7_need_X7_eggOn : GoodIn wsX7_need wsX7_eggOn := goodIn_r _ [18, 1, 19, 20, 21, 4, 22, 23, 24, 25, 26, 43, 44, 45, 46, 47, 48, 49, 50, 51, 52, 53, 54, 55, 56, 57, 58, 59, 60, 61, 62, 63, 64, 65, 66, 67, 68, 69, 70, 71, 72, 73, 74, 75, 76] (by decide +kernel) (by decide +kernel)
set_option maxRecDepth 20000 in
theorem gX7_need_X7_eggOn : GoodIn wsX7_need (wsV RX7 143 RX7 yX7_eggOn wsX7_eggOn) := goodIn_app (goodIn_of _ (by decide +kernel)) ggX7_need_X7_eggOn
set_option maxRecDepth 20000 in
theorem ggX7_need_X7_copies : GoodIn wsX7_need wsX7_copies := goodIn_r _ [30, 1, 43, 44, 45, 46, 47, 48, 49, 50, 51, 52, 53, 54, 55, 56, 57, 58, 59, 60, 61, 62, 63, 64, 65, 66, 67, 68, 69, 70, 71, 72, 73, 74, 75, 76] (by decide +kernel) (by decide +kernel)
set_option maxRecDepth 20000 in
theorem gX7_need_X7_copies : GoodIn wsX7_need (wsV RX7 205 RX7 yX7_copies wsX7_copies) := goodIn_app (goodIn_of _ (by decide +kernel)) ggX7_need_X7_copies
set_option maxRecDepth 20000 in
theorem ggX7_need_X7_buysOn : GoodIn wsX7_need wsX7_buysOn := goodIn_r _ [34, 1, 35, 36, 37, 4, 38, 39, 40, 41, 42, 19, 20, 21, 22, 43, 44, 45, 46, 47, 48, 49, 50, 51, 52, 53, 54, 55, 56, 57, 58, 59, 60, 61, 62, 63, 64, 65, 66, 67, 68, 69, 70, 71, 72, 73, 74, 75, 76] (by decide +kernel) (by decide +kernel)
set_option maxRecDepth 20000 in
theorem gX7_need_X7_buysOn : GoodIn wsX7_need (wsV RX7 192 RX7 yX7_buysOn wsX7_buysOn) := goodIn_app (goodIn_of _ (by decide +kernel)) ggX7_need_X7_buysOn
theorem dX7_need_0 : decode cX7_need 0 = .ok (.iload_n 1, 1) := by decide +kernel
theorem dX7_need_1 : decode cX7_need 1 = .ok (.invokestatic 166, 3) := by decide +kernel
theorem dX7_need_4 : decode cX7_need 4 = .ok (.ifCond .eq 21, 3) := by decide +kernel
theorem dX7_need_7 : decode cX7_need 7 = .ok (.aload_n 0, 1) := by decide +kernel
theorem dX7_need_8 : decode cX7_need 8 = .ok (.iload_n 2, 1) := by decide +kernel
theorem dX7_need_9 : decode cX7_need 9 = .ok (.invokevirtual 156, 3) := by decide +kernel
theorem dX7_need_12 : decode cX7_need 12 = .ok (.ifCond .eq 13, 3) := by decide +kernel
theorem dX7_need_15 : decode cX7_need 15 = .ok (.iload_n 3, 1) := by decide +kernel
theorem dX7_need_16 : decode cX7_need 16 = .ok (.i2l, 1) := by decide +kernel
theorem dX7_need_17 : decode cX7_need 17 = .ok (.lconst 0, 1) := by decide +kernel
theorem dX7_need_18 : decode cX7_need 18 = .ok (.lconst 1, 1) := by decide +kernel
theorem dX7_need_19 : decode cX7_need 19 = .ok (.invokestatic 46, 3) := by decide +kernel
theorem dX7_need_22 : decode cX7_need 22 = .ok (.ifCond .ne 5, 3) := by decide +kernel
theorem dX7_need_25 : decode cX7_need 25 = .ok (.iconst (-1), 1) := by decide +kernel
theorem dX7_need_26 : decode cX7_need 26 = .ok (.ireturn, 1) := by decide +kernel
theorem dX7_need_27 : decode cX7_need 27 = .ok (.aload_n 0, 1) := by decide +kernel
theorem dX7_need_28 : decode cX7_need 28 = .ok (.iconst 0, 1) := by decide +kernel
theorem dX7_need_29 : decode cX7_need 29 = .ok (.iload_n 2, 1) := by decide +kernel
theorem dX7_need_30 : decode cX7_need 30 = .ok (.invokevirtual 143, 3) := by decide +kernel
theorem dX7_need_33 : decode cX7_need 33 = .ok (.iload_n 1, 1) := by decide +kernel
theorem dX7_need_34 : decode cX7_need 34 = .ok (.if_icmp .ne 6, 3) := by decide +kernel
theorem dX7_need_37 : decode cX7_need 37 = .ok (.bipush (-2), 2) := by decide +kernel
theorem dX7_need_39 : decode cX7_need 39 = .ok (.ireturn, 1) := by decide +kernel
theorem dX7_need_40 : decode cX7_need 40 = .ok (.iconst 1, 1) := by decide +kernel
theorem dX7_need_41 : decode cX7_need 41 = .ok (.istore 4, 2) := by decide +kernel
theorem dX7_need_43 : decode cX7_need 43 = .ok (.iload 4, 2) := by decide +kernel
theorem dX7_need_45 : decode cX7_need 45 = .ok (.bipush 9, 2) := by decide +kernel
theorem dX7_need_47 : decode cX7_need 47 = .ok (.if_icmp .gt 94, 3) := by decide +kernel
theorem dX7_need_50 : decode cX7_need 50 = .ok (.iconst 0, 1) := by decide +kernel
theorem dX7_need_51 : decode cX7_need 51 = .ok (.istore 5, 2) := by decide +kernel
theorem dX7_need_53 : decode cX7_need 53 = .ok (.iload 5, 2) := by decide +kernel
theorem dX7_need_55 : decode cX7_need 55 = .ok (.iconst 5, 1) := by decide +kernel
theorem dX7_need_56 : decode cX7_need 56 = .ok (.if_icmp .ge 79, 3) := by decide +kernel
theorem dX7_need_59 : decode cX7_need 59 = .ok (.aload_n 0, 1) := by decide +kernel
theorem dX7_need_60 : decode cX7_need 60 = .ok (.iconst 0, 1) := by decide +kernel
theorem dX7_need_61 : decode cX7_need 61 = .ok (.sipush 240, 3) := by decide +kernel
theorem dX7_need_64 : decode cX7_need 64 = .ok (.invokevirtual 205, 3) := by decide +kernel
theorem dX7_need_67 : decode cX7_need 67 = .ok (.iload 5, 2) := by decide +kernel
theorem dX7_need_69 : decode cX7_need 69 = .ok (.iload_n 1, 1) := by decide +kernel
theorem dX7_need_70 : decode cX7_need 70 = .ok (.if_icmp .eq 59, 3) := by decide +kernel
theorem dX7_need_73 : decode cX7_need 73 = .ok (.aload_n 0, 1) := by decide +kernel
theorem dX7_need_74 : decode cX7_need 74 = .ok (.sipush 240, 3) := by decide +kernel
theorem dX7_need_77 : decode cX7_need 77 = .ok (.iload_n 1, 1) := by decide +kernel
theorem dX7_need_78 : decode cX7_need 78 = .ok (.iload 5, 2) := by decide +kernel
theorem dX7_need_80 : decode cX7_need 80 = .ok (.iload_n 2, 1) := by decide +kernel
theorem dX7_need_81 : decode cX7_need 81 = .ok (.iload 4, 2) := by decide +kernel
theorem dX7_need_83 : decode cX7_need 83 = .ok (.invokevirtual 192, 3) := by decide +kernel
theorem dX7_need_86 : decode cX7_need 86 = .ok (.ifCond .eq 43, 3) := by decide +kernel
theorem dX7_need_89 : decode cX7_need 89 = .ok (.aload_n 0, 1) := by decide +kernel
theorem dX7_need_90 : decode cX7_need 90 = .ok (.sipush 240, 3) := by decide +kernel
theorem dX7_need_93 : decode cX7_need 93 = .ok (.iload_n 2, 1) := by decide +kernel
theorem dX7_need_94 : decode cX7_need 94 = .ok (.invokevirtual 143, 3) := by decide +kernel
theorem dX7_need_97 : decode cX7_need 97 = .ok (.iload_n 1, 1) := by decide +kernel
theorem dX7_need_98 : decode cX7_need 98 = .ok (.if_icmp .ne 31, 3) := by decide +kernel
theorem dX7_need_101 : decode cX7_need 101 = .ok (.iload_n 3, 1) := by decide +kernel
theorem dX7_need_102 : decode cX7_need 102 = .ok (.ifCond .ne 14, 3) := by decide +kernel
theorem dX7_need_105 : decode cX7_need 105 = .ok (.bipush 10, 2) := by decide +kernel
theorem dX7_need_107 : decode cX7_need 107 = .ok (.iload 5, 2) := by decide +kernel
theorem dX7_need_109 : decode cX7_need 109 = .ok (.imul, 1) := by decide +kernel
theorem dX7_need_110 : decode cX7_need 110 = .ok (.iload 4, 2) := by decide +kernel
theorem dX7_need_112 : decode cX7_need 112 = .ok (.iadd, 1) := by decide +kernel
theorem dX7_need_113 : decode cX7_need 113 = .ok (.goto 15, 3) := by decide +kernel
theorem dX7_need_116 : decode cX7_need 116 = .ok (.iload 4, 2) := by decide +kernel
theorem dX7_need_118 : decode cX7_need 118 = .ok (.aload_n 0, 1) := by decide +kernel
theorem dX7_need_119 : decode cX7_need 119 = .ok (.getfield 7, 3) := by decide +kernel
theorem dX7_need_122 : decode cX7_need 122 = .ok (.bipush 6, 2) := by decide +kernel
theorem dX7_need_124 : decode cX7_need 124 = .ok (.iload_n 2, 1) := by decide +kernel
theorem dX7_need_125 : decode cX7_need 125 = .ok (.iadd, 1) := by decide +kernel
theorem dX7_need_126 : decode cX7_need 126 = .ok (.iaload, 1) := by decide +kernel
theorem dX7_need_127 : decode cX7_need 127 = .ok (.imul, 1) := by decide +kernel
theorem dX7_need_128 : decode cX7_need 128 = .ok (.ireturn, 1) := by decide +kernel
theorem dX7_need_129 : decode cX7_need 129 = .ok (.iinc 5 1, 3) := by decide +kernel
theorem dX7_need_132 : decode cX7_need 132 = .ok (.goto (-79), 3) := by decide +kernel
theorem dX7_need_135 : decode cX7_need 135 = .ok (.iinc 4 1, 3) := by decide +kernel
theorem dX7_need_138 : decode cX7_need 138 = .ok (.goto (-95), 3) := by decide +kernel
theorem dX7_need_141 : decode cX7_need 141 = .ok (.bipush (-4), 2) := by decide +kernel
theorem dX7_need_143 : decode cX7_need 143 = .ok (.ireturn, 1) := by decide +kernel
set_option maxRecDepth 20000 in
theorem ggX7_compares_X7_eggsNow : GoodIn wsX7_compares wsX7_eggsNow := goodIn_r _ [10, 11, 12, 13, 14, 9, 15, 16, 17, 18, 19, 20, 21, 22, 23, 24, 32, 33, 34, 35, 36, 37, 38, 39, 40, 41, 42, 43, 44, 45, 46, 47, 48, 49, 50, 51, 52, 53, 54, 55, 56, 57, 58, 59, 60, 61, 62, 63, 64, 65] (by decide +kernel) (by decide +kernel)
set_option maxRecDepth 20000 in
theorem gX7_compares_X7_eggsNow : GoodIn wsX7_compares (wsV RX7 163 RX7 yX7_eggsNow wsX7_eggsNow) := goodIn_app (goodIn_of _ (by decide +kernel)) ggX7_compares_X7_eggsNow
set_option maxRecDepth 20000 in
theorem ggX7_compares_X7_bitsOf : GoodIn wsX7_compares wsX7_bitsOf := goodIn_r _ [27] (by decide +kernel) (by decide +kernel)
set_option maxRecDepth 20000 in
theorem gX7_compares_X7_bitsOf : GoodIn wsX7_compares (va_wsS RX7 229 yX7_bitsOf wsX7_bitsOf) := goodIn_app (goodIn_of _ (by decide +kernel)) ggX7_compares_X7_bitsOf
set_option maxRecDepth 20000 in
theorem ggX7_compares_X7_moneyOn : GoodIn wsX7_compares wsX7_moneyOn := goodIn_r _ [31, 16, 32, 33, 34, 35, 36, 37, 38, 39, 40, 41, 42, 43, 44, 45, 46, 47, 48, 49, 50, 51, 52, 53, 54, 55, 56, 57, 58, 59, 60, 61, 62, 63, 64, 65] (by decide +kernel) (by decide +kernel)
set_option maxRecDepth 20000 in
theorem gX7_compares_X7_moneyOn : GoodIn wsX7_compares (wsV RX7 146 RX7 yX7_moneyOn wsX7_moneyOn) := goodIn_app (goodIn_of _ (by decide +kernel)) ggX7_compares_X7_moneyOn
theorem dX7_compares_0 : decode cX7_compares 0 = .ok (.aload_n 0, 1) := by decide +kernel
theorem dX7_compares_1 : decode cX7_compares 1 = .ok (.iload_n 1, 1) := by decide +kernel
theorem dX7_compares_2 : decode cX7_compares 2 = .ok (.iload_n 2, 1) := by decide +kernel
theorem dX7_compares_3 : decode cX7_compares 3 = .ok (.invokevirtual 163, 3) := by decide +kernel
theorem dX7_compares_6 : decode cX7_compares 6 = .ok (.invokestatic 229, 3) := by decide +kernel
theorem dX7_compares_9 : decode cX7_compares 9 = .ok (.istore 6, 2) := by decide +kernel
theorem dX7_compares_11 : decode cX7_compares 11 = .ok (.aload_n 0, 1) := by decide +kernel
theorem dX7_compares_12 : decode cX7_compares 12 = .ok (.iconst 0, 1) := by decide +kernel
theorem dX7_compares_13 : decode cX7_compares 13 = .ok (.iload_n 2, 1) := by decide +kernel
theorem dX7_compares_14 : decode cX7_compares 14 = .ok (.invokevirtual 146, 3) := by decide +kernel
theorem dX7_compares_17 : decode cX7_compares 17 = .ok (.aload_n 0, 1) := by decide +kernel
theorem dX7_compares_18 : decode cX7_compares 18 = .ok (.iload_n 1, 1) := by decide +kernel
theorem dX7_compares_19 : decode cX7_compares 19 = .ok (.iload_n 2, 1) := by decide +kernel
theorem dX7_compares_20 : decode cX7_compares 20 = .ok (.invokevirtual 146, 3) := by decide +kernel
theorem dX7_compares_23 : decode cX7_compares 23 = .ok (.isub, 1) := by decide +kernel
theorem dX7_compares_24 : decode cX7_compares 24 = .ok (.istore 7, 2) := by decide +kernel
theorem dX7_compares_26 : decode cX7_compares 26 = .ok (.iload 6, 2) := by decide +kernel
theorem dX7_compares_28 : decode cX7_compares 28 = .ok (.aload_n 0, 1) := by decide +kernel
theorem dX7_compares_29 : decode cX7_compares 29 = .ok (.getfield 232, 3) := by decide +kernel
theorem dX7_compares_32 : decode cX7_compares 32 = .ok (.if_icmp .gt 21, 3) := by decide +kernel
theorem dX7_compares_35 : decode cX7_compares 35 = .ok (.iload 6, 2) := by decide +kernel
theorem dX7_compares_37 : decode cX7_compares 37 = .ok (.aload_n 0, 1) := by decide +kernel
theorem dX7_compares_38 : decode cX7_compares 38 = .ok (.getfield 232, 3) := by decide +kernel
theorem dX7_compares_41 : decode cX7_compares 41 = .ok (.if_icmp .ne 16, 3) := by decide +kernel
theorem dX7_compares_44 : decode cX7_compares 44 = .ok (.iload 7, 2) := by decide +kernel
theorem dX7_compares_46 : decode cX7_compares 46 = .ok (.aload_n 0, 1) := by decide +kernel
theorem dX7_compares_47 : decode cX7_compares 47 = .ok (.getfield 235, 3) := by decide +kernel
theorem dX7_compares_50 : decode cX7_compares 50 = .ok (.if_icmp .ge 7, 3) := by decide +kernel
theorem dX7_compares_53 : decode cX7_compares 53 = .ok (.iconst 1, 1) := by decide +kernel
theorem dX7_compares_54 : decode cX7_compares 54 = .ok (.goto 4, 3) := by decide +kernel
theorem dX7_compares_57 : decode cX7_compares 57 = .ok (.iconst 0, 1) := by decide +kernel
theorem dX7_compares_58 : decode cX7_compares 58 = .ok (.istore 8, 2) := by decide +kernel
theorem dX7_compares_60 : decode cX7_compares 60 = .ok (.aload_n 0, 1) := by decide +kernel
theorem dX7_compares_61 : decode cX7_compares 61 = .ok (.iload 8, 2) := by decide +kernel
theorem dX7_compares_63 : decode cX7_compares 63 = .ok (.ifCond .eq 8, 3) := by decide +kernel
theorem dX7_compares_66 : decode cX7_compares 66 = .ok (.iload 6, 2) := by decide +kernel
theorem dX7_compares_68 : decode cX7_compares 68 = .ok (.goto 7, 3) := by decide +kernel
theorem dX7_compares_71 : decode cX7_compares 71 = .ok (.aload_n 0, 1) := by decide +kernel
theorem dX7_compares_72 : decode cX7_compares 72 = .ok (.getfield 232, 3) := by decide +kernel
theorem dX7_compares_75 : decode cX7_compares 75 = .ok (.putfield 232, 3) := by decide +kernel
theorem dX7_compares_78 : decode cX7_compares 78 = .ok (.aload_n 0, 1) := by decide +kernel
theorem dX7_compares_79 : decode cX7_compares 79 = .ok (.iload 8, 2) := by decide +kernel
theorem dX7_compares_81 : decode cX7_compares 81 = .ok (.ifCond .eq 8, 3) := by decide +kernel
theorem dX7_compares_84 : decode cX7_compares 84 = .ok (.iload 7, 2) := by decide +kernel
theorem dX7_compares_86 : decode cX7_compares 86 = .ok (.goto 7, 3) := by decide +kernel
theorem dX7_compares_89 : decode cX7_compares 89 = .ok (.aload_n 0, 1) := by decide +kernel
theorem dX7_compares_90 : decode cX7_compares 90 = .ok (.getfield 235, 3) := by decide +kernel
theorem dX7_compares_93 : decode cX7_compares 93 = .ok (.putfield 235, 3) := by decide +kernel
theorem dX7_compares_96 : decode cX7_compares 96 = .ok (.aload_n 0, 1) := by decide +kernel
theorem dX7_compares_97 : decode cX7_compares 97 = .ok (.iload 8, 2) := by decide +kernel
theorem dX7_compares_99 : decode cX7_compares 99 = .ok (.ifCond .eq 7, 3) := by decide +kernel
theorem dX7_compares_102 : decode cX7_compares 102 = .ok (.iload_n 3, 1) := by decide +kernel
theorem dX7_compares_103 : decode cX7_compares 103 = .ok (.goto 7, 3) := by decide +kernel
theorem dX7_compares_106 : decode cX7_compares 106 = .ok (.aload_n 0, 1) := by decide +kernel
theorem dX7_compares_107 : decode cX7_compares 107 = .ok (.getfield 238, 3) := by decide +kernel
theorem dX7_compares_110 : decode cX7_compares 110 = .ok (.putfield 238, 3) := by decide +kernel
theorem dX7_compares_113 : decode cX7_compares 113 = .ok (.aload_n 0, 1) := by decide +kernel
theorem dX7_compares_114 : decode cX7_compares 114 = .ok (.iload 8, 2) := by decide +kernel
theorem dX7_compares_116 : decode cX7_compares 116 = .ok (.ifCond .eq 8, 3) := by decide +kernel
theorem dX7_compares_119 : decode cX7_compares 119 = .ok (.iload 4, 2) := by decide +kernel
theorem dX7_compares_121 : decode cX7_compares 121 = .ok (.goto 7, 3) := by decide +kernel
theorem dX7_compares_124 : decode cX7_compares 124 = .ok (.aload_n 0, 1) := by decide +kernel
theorem dX7_compares_125 : decode cX7_compares 125 = .ok (.getfield 241, 3) := by decide +kernel
theorem dX7_compares_128 : decode cX7_compares 128 = .ok (.putfield 241, 3) := by decide +kernel
theorem dX7_compares_131 : decode cX7_compares 131 = .ok (.aload_n 0, 1) := by decide +kernel
theorem dX7_compares_132 : decode cX7_compares 132 = .ok (.iload 8, 2) := by decide +kernel
theorem dX7_compares_134 : decode cX7_compares 134 = .ok (.ifCond .eq 8, 3) := by decide +kernel
theorem dX7_compares_137 : decode cX7_compares 137 = .ok (.iload 5, 2) := by decide +kernel
theorem dX7_compares_139 : decode cX7_compares 139 = .ok (.goto 7, 3) := by decide +kernel
theorem dX7_compares_142 : decode cX7_compares 142 = .ok (.aload_n 0, 1) := by decide +kernel
theorem dX7_compares_143 : decode cX7_compares 143 = .ok (.getfield 244, 3) := by decide +kernel
theorem dX7_compares_146 : decode cX7_compares 146 = .ok (.putfield 244, 3) := by decide +kernel
theorem dX7_compares_149 : decode cX7_compares 149 = .ok (.return_, 1) := by decide +kernel
set_option maxRecDepth 20000 in
theorem ggX7_buysBy_X7_isTrade : GoodIn wsX7_buysBy wsX7_isTrade := goodIn_r _ [5, 6, 7, 8, 4, 9, 10, 11, 12, 13, 14, 15, 16, 17, 18, 36, 37, 38, 39, 40, 41, 42, 43, 44, 45, 46, 47, 48, 49, 50, 51, 52, 53, 54, 55, 56, 57, 58, 59, 60, 61, 62, 63, 64, 65, 66, 67, 68, 69] (by decide +kernel) (by decide +kernel)
set_option maxRecDepth 20000 in
theorem gX7_buysBy_X7_isTrade : GoodIn wsX7_buysBy (wsV RX7 184 RX7 yX7_isTrade wsX7_isTrade) := goodIn_app (goodIn_of _ (by decide +kernel)) ggX7_buysBy_X7_isTrade
set_option maxRecDepth 20000 in
theorem ggX7_buysBy_X7_buysOn : GoodIn wsX7_buysBy wsX7_buysOn := goodIn_r _ [22, 23, 24, 25, 26, 4, 27, 28, 29, 30, 31, 32, 33, 34, 35, 36, 37, 38, 39, 40, 41, 42, 43, 44, 45, 46, 47, 48, 49, 50, 51, 52, 53, 54, 55, 56, 57, 58, 59, 60, 61, 62, 63, 64, 65, 66, 67, 68, 69] (by decide +kernel) (by decide +kernel)
set_option maxRecDepth 20000 in
theorem gX7_buysBy_X7_buysOn : GoodIn wsX7_buysBy (wsV RX7 192 RX7 yX7_buysOn wsX7_buysOn) := goodIn_app (goodIn_of _ (by decide +kernel)) ggX7_buysBy_X7_buysOn
theorem dX7_buysBy_0 : decode cX7_buysBy 0 = .ok (.iload_n 3, 1) := by decide +kernel
theorem dX7_buysBy_1 : decode cX7_buysBy 1 = .ok (.bipush 100, 2) := by decide +kernel
theorem dX7_buysBy_3 : decode cX7_buysBy 3 = .ok (.idiv, 1) := by decide +kernel
theorem dX7_buysBy_4 : decode cX7_buysBy 4 = .ok (.istore 4, 2) := by decide +kernel
theorem dX7_buysBy_6 : decode cX7_buysBy 6 = .ok (.iload_n 3, 1) := by decide +kernel
theorem dX7_buysBy_7 : decode cX7_buysBy 7 = .ok (.bipush 10, 2) := by decide +kernel
theorem dX7_buysBy_9 : decode cX7_buysBy 9 = .ok (.idiv, 1) := by decide +kernel
theorem dX7_buysBy_10 : decode cX7_buysBy 10 = .ok (.bipush 10, 2) := by decide +kernel
theorem dX7_buysBy_12 : decode cX7_buysBy 12 = .ok (.irem, 1) := by decide +kernel
theorem dX7_buysBy_13 : decode cX7_buysBy 13 = .ok (.istore 5, 2) := by decide +kernel
theorem dX7_buysBy_15 : decode cX7_buysBy 15 = .ok (.iload_n 3, 1) := by decide +kernel
theorem dX7_buysBy_16 : decode cX7_buysBy 16 = .ok (.bipush 10, 2) := by decide +kernel
theorem dX7_buysBy_18 : decode cX7_buysBy 18 = .ok (.irem, 1) := by decide +kernel
theorem dX7_buysBy_19 : decode cX7_buysBy 19 = .ok (.istore 6, 2) := by decide +kernel
theorem dX7_buysBy_21 : decode cX7_buysBy 21 = .ok (.aload_n 0, 1) := by decide +kernel
theorem dX7_buysBy_22 : decode cX7_buysBy 22 = .ok (.iload_n 2, 1) := by decide +kernel
theorem dX7_buysBy_23 : decode cX7_buysBy 23 = .ok (.iload 4, 2) := by decide +kernel
theorem dX7_buysBy_25 : decode cX7_buysBy 25 = .ok (.iload 5, 2) := by decide +kernel
theorem dX7_buysBy_27 : decode cX7_buysBy 27 = .ok (.iload 6, 2) := by decide +kernel
theorem dX7_buysBy_29 : decode cX7_buysBy 29 = .ok (.invokevirtual 184, 3) := by decide +kernel
theorem dX7_buysBy_32 : decode cX7_buysBy 32 = .ok (.ifCond .eq 22, 3) := by decide +kernel
theorem dX7_buysBy_35 : decode cX7_buysBy 35 = .ok (.aload_n 0, 1) := by decide +kernel
theorem dX7_buysBy_36 : decode cX7_buysBy 36 = .ok (.iload_n 1, 1) := by decide +kernel
theorem dX7_buysBy_37 : decode cX7_buysBy 37 = .ok (.iload_n 2, 1) := by decide +kernel
theorem dX7_buysBy_38 : decode cX7_buysBy 38 = .ok (.iload 4, 2) := by decide +kernel
theorem dX7_buysBy_40 : decode cX7_buysBy 40 = .ok (.iload 5, 2) := by decide +kernel
theorem dX7_buysBy_42 : decode cX7_buysBy 42 = .ok (.iload 6, 2) := by decide +kernel
theorem dX7_buysBy_44 : decode cX7_buysBy 44 = .ok (.invokevirtual 192, 3) := by decide +kernel
theorem dX7_buysBy_47 : decode cX7_buysBy 47 = .ok (.ifCond .eq 7, 3) := by decide +kernel
theorem dX7_buysBy_50 : decode cX7_buysBy 50 = .ok (.iconst 1, 1) := by decide +kernel
theorem dX7_buysBy_51 : decode cX7_buysBy 51 = .ok (.goto 4, 3) := by decide +kernel
theorem dX7_buysBy_54 : decode cX7_buysBy 54 = .ok (.iconst 0, 1) := by decide +kernel
theorem dX7_buysBy_55 : decode cX7_buysBy 55 = .ok (.ireturn, 1) := by decide +kernel
set_option maxRecDepth 20000 in
theorem ggX7_rowsOf_X7_copies : GoodIn wsX7_rowsOf wsX7_copies := goodIn_r _ [5, 6, 68, 69, 70, 71, 72, 73, 74, 75, 76, 77, 78, 79, 80, 81, 82, 83, 84, 85, 86, 87, 88, 89, 90, 91, 92, 93, 94, 95, 96, 97, 98, 99, 100, 101] (by decide +kernel) (by decide +kernel)
set_option maxRecDepth 20000 in
theorem gX7_rowsOf_X7_copies : GoodIn wsX7_rowsOf (wsV RX7 205 RX7 yX7_copies wsX7_copies) := goodIn_app (goodIn_of _ (by decide +kernel)) ggX7_rowsOf_X7_copies
set_option maxRecDepth 20000 in
theorem ggX7_rowsOf_X7_buysBy : GoodIn wsX7_rowsOf wsX7_buysBy := goodIn_r _ [10, 11, 12, 13, 4, 14, 15, 16, 17, 18, 19, 20, 21, 22, 23, 24, 25, 26, 27, 28, 29, 30, 31, 6, 32, 33, 34, 35, 36, 37, 38, 39, 40, 41, 42, 43, 68, 69, 70, 71, 72, 73, 74, 75, 76, 77, 78, 79, 80, 81, 82, 83, 84, 85, 86, 87, 88, 89, 90, 91, 92, 93, 94, 95, 96, 97, 98, 99, 100, 101] (by decide +kernel) (by decide +kernel)
set_option maxRecDepth 20000 in
theorem gX7_rowsOf_X7_buysBy : GoodIn wsX7_rowsOf (wsV RX7 247 RX7 yX7_buysBy wsX7_buysBy) := goodIn_app (goodIn_of _ (by decide +kernel)) ggX7_rowsOf_X7_buysBy
set_option maxRecDepth 20000 in
theorem ggX7_rowsOf_X7_compares : GoodIn wsX7_rowsOf wsX7_compares := goodIn_r _ [47, 48, 49, 50, 51, 52, 53, 54, 55, 4, 56, 27, 57, 58, 59, 60, 6, 40, 41, 42, 43, 61, 62, 63, 64, 65, 66, 67, 32, 33, 34, 35, 68, 69, 70, 71, 72, 73, 74, 75, 76, 77, 78, 79, 80, 81, 82, 83, 84, 85, 86, 87, 88, 89, 90, 91, 92, 93, 94, 95, 96, 97, 98, 99, 100, 101] (by decide +kernel) (by decide +kernel)
set_option maxRecDepth 20000 in
theorem gX7_rowsOf_X7_compares : GoodIn wsX7_rowsOf (wsV RX7 251 RX7 yX7_compares wsX7_compares) := goodIn_app (goodIn_of _ (by decide +kernel)) ggX7_rowsOf_X7_compares
theorem dX7_rowsOf_0 : decode cX7_rowsOf 0 = .ok (.iconst 0, 1) := by decide +kernel
theorem dX7_rowsOf_1 : decode cX7_rowsOf 1 = .ok (.istore_n 3, 1) := by decide +kernel
theorem dX7_rowsOf_2 : decode cX7_rowsOf 2 = .ok (.iload_n 3, 1) := by decide +kernel
theorem dX7_rowsOf_3 : decode cX7_rowsOf 3 = .ok (.sipush 500, 3) := by decide +kernel
theorem dX7_rowsOf_6 : decode cX7_rowsOf 6 = .ok (.if_icmp .ge 103, 3) := by decide +kernel
theorem dX7_rowsOf_9 : decode cX7_rowsOf 9 = .ok (.aload_n 0, 1) := by decide +kernel
theorem dX7_rowsOf_10 : decode cX7_rowsOf 10 = .ok (.iconst 0, 1) := by decide +kernel
theorem dX7_rowsOf_11 : decode cX7_rowsOf 11 = .ok (.sipush 300, 3) := by decide +kernel
theorem dX7_rowsOf_14 : decode cX7_rowsOf 14 = .ok (.invokevirtual 205, 3) := by decide +kernel
theorem dX7_rowsOf_17 : decode cX7_rowsOf 17 = .ok (.aload_n 0, 1) := by decide +kernel
theorem dX7_rowsOf_18 : decode cX7_rowsOf 18 = .ok (.sipush 300, 3) := by decide +kernel
theorem dX7_rowsOf_21 : decode cX7_rowsOf 21 = .ok (.iload_n 1, 1) := by decide +kernel
theorem dX7_rowsOf_22 : decode cX7_rowsOf 22 = .ok (.iload_n 3, 1) := by decide +kernel
theorem dX7_rowsOf_23 : decode cX7_rowsOf 23 = .ok (.invokevirtual 247, 3) := by decide +kernel
theorem dX7_rowsOf_26 : decode cX7_rowsOf 26 = .ok (.ifCond .eq 77, 3) := by decide +kernel
theorem dX7_rowsOf_29 : decode cX7_rowsOf 29 = .ok (.iload_n 2, 1) := by decide +kernel
theorem dX7_rowsOf_30 : decode cX7_rowsOf 30 = .ok (.iconst 1, 1) := by decide +kernel
theorem dX7_rowsOf_31 : decode cX7_rowsOf 31 = .ok (.if_icmp .ne 15, 3) := by decide +kernel
theorem dX7_rowsOf_34 : decode cX7_rowsOf 34 = .ok (.aload_n 0, 1) := by decide +kernel
theorem dX7_rowsOf_35 : decode cX7_rowsOf 35 = .ok (.sipush 300, 3) := by decide +kernel
theorem dX7_rowsOf_38 : decode cX7_rowsOf 38 = .ok (.iload_n 1, 1) := by decide +kernel
theorem dX7_rowsOf_39 : decode cX7_rowsOf 39 = .ok (.iconst 1, 1) := by decide +kernel
theorem dX7_rowsOf_40 : decode cX7_rowsOf 40 = .ok (.iload_n 3, 1) := by decide +kernel
theorem dX7_rowsOf_41 : decode cX7_rowsOf 41 = .ok (.bipush (-4), 2) := by decide +kernel
theorem dX7_rowsOf_43 : decode cX7_rowsOf 43 = .ok (.invokevirtual 251, 3) := by decide +kernel
theorem dX7_rowsOf_46 : decode cX7_rowsOf 46 = .ok (.iconst 0, 1) := by decide +kernel
theorem dX7_rowsOf_47 : decode cX7_rowsOf 47 = .ok (.istore 4, 2) := by decide +kernel
theorem dX7_rowsOf_49 : decode cX7_rowsOf 49 = .ok (.iload 4, 2) := by decide +kernel
theorem dX7_rowsOf_51 : decode cX7_rowsOf 51 = .ok (.sipush 500, 3) := by decide +kernel
theorem dX7_rowsOf_54 : decode cX7_rowsOf 54 = .ok (.if_icmp .ge 49, 3) := by decide +kernel
theorem dX7_rowsOf_57 : decode cX7_rowsOf 57 = .ok (.iload_n 2, 1) := by decide +kernel
theorem dX7_rowsOf_58 : decode cX7_rowsOf 58 = .ok (.iconst 2, 1) := by decide +kernel
theorem dX7_rowsOf_59 : decode cX7_rowsOf 59 = .ok (.if_icmp .ne 44, 3) := by decide +kernel
theorem dX7_rowsOf_62 : decode cX7_rowsOf 62 = .ok (.aload_n 0, 1) := by decide +kernel
theorem dX7_rowsOf_63 : decode cX7_rowsOf 63 = .ok (.sipush 300, 3) := by decide +kernel
theorem dX7_rowsOf_66 : decode cX7_rowsOf 66 = .ok (.sipush 240, 3) := by decide +kernel
theorem dX7_rowsOf_69 : decode cX7_rowsOf 69 = .ok (.invokevirtual 205, 3) := by decide +kernel
theorem dX7_rowsOf_72 : decode cX7_rowsOf 72 = .ok (.aload_n 0, 1) := by decide +kernel
theorem dX7_rowsOf_73 : decode cX7_rowsOf 73 = .ok (.sipush 240, 3) := by decide +kernel
theorem dX7_rowsOf_76 : decode cX7_rowsOf 76 = .ok (.iload_n 1, 1) := by decide +kernel
theorem dX7_rowsOf_77 : decode cX7_rowsOf 77 = .ok (.iload 4, 2) := by decide +kernel
theorem dX7_rowsOf_79 : decode cX7_rowsOf 79 = .ok (.invokevirtual 247, 3) := by decide +kernel
theorem dX7_rowsOf_82 : decode cX7_rowsOf 82 = .ok (.ifCond .eq 15, 3) := by decide +kernel
theorem dX7_rowsOf_85 : decode cX7_rowsOf 85 = .ok (.aload_n 0, 1) := by decide +kernel
theorem dX7_rowsOf_86 : decode cX7_rowsOf 86 = .ok (.sipush 240, 3) := by decide +kernel
theorem dX7_rowsOf_89 : decode cX7_rowsOf 89 = .ok (.iload_n 1, 1) := by decide +kernel
theorem dX7_rowsOf_90 : decode cX7_rowsOf 90 = .ok (.iconst 2, 1) := by decide +kernel
theorem dX7_rowsOf_91 : decode cX7_rowsOf 91 = .ok (.iload_n 3, 1) := by decide +kernel
theorem dX7_rowsOf_92 : decode cX7_rowsOf 92 = .ok (.iload 4, 2) := by decide +kernel
theorem dX7_rowsOf_94 : decode cX7_rowsOf 94 = .ok (.invokevirtual 251, 3) := by decide +kernel
theorem dX7_rowsOf_97 : decode cX7_rowsOf 97 = .ok (.iinc 4 1, 3) := by decide +kernel
theorem dX7_rowsOf_100 : decode cX7_rowsOf 100 = .ok (.goto (-51), 3) := by decide +kernel
theorem dX7_rowsOf_103 : decode cX7_rowsOf 103 = .ok (.iinc 3 1, 3) := by decide +kernel
theorem dX7_rowsOf_106 : decode cX7_rowsOf 106 = .ok (.goto (-104), 3) := by decide +kernel
theorem dX7_rowsOf_109 : decode cX7_rowsOf 109 = .ok (.return_, 1) := by decide +kernel
set_option maxRecDepth 20000 in
theorem ggX7_best_X7_isOwner : GoodIn wsX7_best wsX7_isOwner := goodIn_r _ [12, 13, 14, 15, 11, 16] (by decide +kernel) (by decide +kernel)
set_option maxRecDepth 20000 in
theorem gX7_best_X7_isOwner : GoodIn wsX7_best (va_wsS RX7 166 yX7_isOwner wsX7_isOwner) := goodIn_app (goodIn_of _ (by decide +kernel)) ggX7_best_X7_isOwner
set_option maxRecDepth 20000 in
theorem ggX7_best_X7_in : GoodIn wsX7_best wsX7_in := goodIn_r _ [16] (by decide +kernel) (by decide +kernel)
set_option maxRecDepth 20000 in
theorem gX7_best_X7_in : GoodIn wsX7_best (va_wsS RX7 46 yX7_in wsX7_in) := goodIn_app (goodIn_of _ (by decide +kernel)) ggX7_best_X7_in
set_option maxRecDepth 20000 in
theorem ggX7_best_X7_compares : GoodIn wsX7_best wsX7_compares := goodIn_r _ [20, 4, 5, 6, 7, 8, 21, 22, 23, 11, 24, 25, 26, 27, 28, 29, 30, 31, 32, 33, 34, 35, 36, 37, 38, 39, 40, 41, 42, 43, 44, 45, 75, 76, 77, 78, 79, 80, 81, 82, 83, 84, 85, 86, 87, 88, 89, 90, 91, 92, 93, 94, 95, 96, 97, 98, 99, 100, 101, 102, 103, 104, 105, 106, 107, 108] (by decide +kernel) (by decide +kernel)
set_option maxRecDepth 20000 in
theorem gX7_best_X7_compares : GoodIn wsX7_best (wsV RX7 251 RX7 yX7_compares wsX7_compares) := goodIn_app (goodIn_of _ (by decide +kernel)) ggX7_best_X7_compares
set_option maxRecDepth 20000 in
theorem ggX7_best_X7_rowsOf : GoodIn wsX7_best wsX7_rowsOf := goodIn_r _ [49, 50, 51, 52, 11, 53, 30, 54, 55, 56, 57, 58, 59, 60, 61, 62, 9, 10, 12, 13, 14, 15, 16, 63, 64, 65, 66, 25, 67, 68, 69, 70, 42, 43, 44, 45, 71, 72, 73, 74, 31, 32, 33, 34, 17, 18, 19, 20, 4, 5, 6, 7, 8, 21, 22, 23, 24, 26, 27, 28, 29, 35, 36, 37, 38, 39, 40, 41, 75, 76, 77, 78, 79, 80, 81, 82, 83, 84, 85, 86, 87, 88, 89, 90, 91, 92, 93, 94, 95, 96, 97, 98, 99, 100, 101, 102, 103, 104, 105, 106, 107, 108] (by decide +kernel) (by decide +kernel)
set_option maxRecDepth 20000 in
theorem gX7_best_X7_rowsOf : GoodIn wsX7_best (wsV RX7 259 RX7 yX7_rowsOf wsX7_rowsOf) := goodIn_app (goodIn_of _ (by decide +kernel)) ggX7_best_X7_rowsOf
theorem dX7_best_0 : decode cX7_best 0 = .ok (.iload_n 1, 1) := by decide +kernel
theorem dX7_best_1 : decode cX7_best 1 = .ok (.invokestatic 166, 3) := by decide +kernel
theorem dX7_best_4 : decode cX7_best 4 = .ok (.ifCond .eq 41, 3) := by decide +kernel
theorem dX7_best_7 : decode cX7_best 7 = .ok (.iload_n 2, 1) := by decide +kernel
theorem dX7_best_8 : decode cX7_best 8 = .ok (.i2l, 1) := by decide +kernel
theorem dX7_best_9 : decode cX7_best 9 = .ok (.lconst 0, 1) := by decide +kernel
theorem dX7_best_10 : decode cX7_best 10 = .ok (.ldc2_w 217, 3) := by decide +kernel
theorem dX7_best_13 : decode cX7_best 13 = .ok (.invokestatic 46, 3) := by decide +kernel
theorem dX7_best_16 : decode cX7_best 16 = .ok (.ifCond .eq 29, 3) := by decide +kernel
theorem dX7_best_19 : decode cX7_best 19 = .ok (.iload_n 3, 1) := by decide +kernel
theorem dX7_best_20 : decode cX7_best 20 = .ok (.i2l, 1) := by decide +kernel
theorem dX7_best_21 : decode cX7_best 21 = .ok (.lconst 0, 1) := by decide +kernel
theorem dX7_best_22 : decode cX7_best 22 = .ok (.ldc2_w 217, 3) := by decide +kernel
theorem dX7_best_25 : decode cX7_best 25 = .ok (.invokestatic 46, 3) := by decide +kernel
theorem dX7_best_28 : decode cX7_best 28 = .ok (.ifCond .ne 19, 3) := by decide +kernel
theorem dX7_best_31 : decode cX7_best 31 = .ok (.iload_n 3, 1) := by decide +kernel
theorem dX7_best_32 : decode cX7_best 32 = .ok (.i2l, 1) := by decide +kernel
theorem dX7_best_33 : decode cX7_best 33 = .ok (.ldc2_w 255, 3) := by decide +kernel
theorem dX7_best_36 : decode cX7_best 36 = .ok (.ldc2_w 257, 3) := by decide +kernel
theorem dX7_best_39 : decode cX7_best 39 = .ok (.invokestatic 46, 3) := by decide +kernel
theorem dX7_best_42 : decode cX7_best 42 = .ok (.ifCond .ne 5, 3) := by decide +kernel
theorem dX7_best_45 : decode cX7_best 45 = .ok (.iconst (-1), 1) := by decide +kernel
theorem dX7_best_46 : decode cX7_best 46 = .ok (.ireturn, 1) := by decide +kernel
theorem dX7_best_47 : decode cX7_best 47 = .ok (.aload_n 0, 1) := by decide +kernel
theorem dX7_best_48 : decode cX7_best 48 = .ok (.iconst (-1), 1) := by decide +kernel
theorem dX7_best_49 : decode cX7_best 49 = .ok (.putfield 232, 3) := by decide +kernel
theorem dX7_best_52 : decode cX7_best 52 = .ok (.aload_n 0, 1) := by decide +kernel
theorem dX7_best_53 : decode cX7_best 53 = .ok (.iconst 0, 1) := by decide +kernel
theorem dX7_best_54 : decode cX7_best 54 = .ok (.iload_n 1, 1) := by decide +kernel
theorem dX7_best_55 : decode cX7_best 55 = .ok (.iconst 0, 1) := by decide +kernel
theorem dX7_best_56 : decode cX7_best 56 = .ok (.bipush (-4), 2) := by decide +kernel
theorem dX7_best_58 : decode cX7_best 58 = .ok (.bipush (-4), 2) := by decide +kernel
theorem dX7_best_60 : decode cX7_best 60 = .ok (.invokevirtual 251, 3) := by decide +kernel
theorem dX7_best_63 : decode cX7_best 63 = .ok (.iconst 1, 1) := by decide +kernel
theorem dX7_best_64 : decode cX7_best 64 = .ok (.istore 4, 2) := by decide +kernel
theorem dX7_best_66 : decode cX7_best 66 = .ok (.iload 4, 2) := by decide +kernel
theorem dX7_best_68 : decode cX7_best 68 = .ok (.iload_n 2, 1) := by decide +kernel
theorem dX7_best_69 : decode cX7_best 69 = .ok (.if_icmp .gt 16, 3) := by decide +kernel
theorem dX7_best_72 : decode cX7_best 72 = .ok (.aload_n 0, 1) := by decide +kernel
theorem dX7_best_73 : decode cX7_best 73 = .ok (.iload_n 1, 1) := by decide +kernel
theorem dX7_best_74 : decode cX7_best 74 = .ok (.iload 4, 2) := by decide +kernel
theorem dX7_best_76 : decode cX7_best 76 = .ok (.invokevirtual 259, 3) := by decide +kernel
theorem dX7_best_79 : decode cX7_best 79 = .ok (.iinc 4 1, 3) := by decide +kernel
theorem dX7_best_82 : decode cX7_best 82 = .ok (.goto (-16), 3) := by decide +kernel
theorem dX7_best_85 : decode cX7_best 85 = .ok (.iload_n 3, 1) := by decide +kernel
theorem dX7_best_86 : decode cX7_best 86 = .ok (.ifCond .ne 10, 3) := by decide +kernel
theorem dX7_best_89 : decode cX7_best 89 = .ok (.aload_n 0, 1) := by decide +kernel
theorem dX7_best_90 : decode cX7_best 90 = .ok (.getfield 232, 3) := by decide +kernel
theorem dX7_best_93 : decode cX7_best 93 = .ok (.goto 44, 3) := by decide +kernel
theorem dX7_best_96 : decode cX7_best 96 = .ok (.iload_n 3, 1) := by decide +kernel
theorem dX7_best_97 : decode cX7_best 97 = .ok (.iconst 1, 1) := by decide +kernel
theorem dX7_best_98 : decode cX7_best 98 = .ok (.if_icmp .ne 10, 3) := by decide +kernel
theorem dX7_best_101 : decode cX7_best 101 = .ok (.aload_n 0, 1) := by decide +kernel
theorem dX7_best_102 : decode cX7_best 102 = .ok (.getfield 235, 3) := by decide +kernel
theorem dX7_best_105 : decode cX7_best 105 = .ok (.goto 32, 3) := by decide +kernel
theorem dX7_best_108 : decode cX7_best 108 = .ok (.iload_n 3, 1) := by decide +kernel
theorem dX7_best_109 : decode cX7_best 109 = .ok (.iconst 2, 1) := by decide +kernel
theorem dX7_best_110 : decode cX7_best 110 = .ok (.if_icmp .ne 10, 3) := by decide +kernel
theorem dX7_best_113 : decode cX7_best 113 = .ok (.aload_n 0, 1) := by decide +kernel
theorem dX7_best_114 : decode cX7_best 114 = .ok (.getfield 238, 3) := by decide +kernel
theorem dX7_best_117 : decode cX7_best 117 = .ok (.goto 20, 3) := by decide +kernel
theorem dX7_best_120 : decode cX7_best 120 = .ok (.iload_n 3, 1) := by decide +kernel
theorem dX7_best_121 : decode cX7_best 121 = .ok (.bipush 10, 2) := by decide +kernel
theorem dX7_best_123 : decode cX7_best 123 = .ok (.if_icmp .ne 10, 3) := by decide +kernel
theorem dX7_best_126 : decode cX7_best 126 = .ok (.aload_n 0, 1) := by decide +kernel
theorem dX7_best_127 : decode cX7_best 127 = .ok (.getfield 241, 3) := by decide +kernel
theorem dX7_best_130 : decode cX7_best 130 = .ok (.goto 7, 3) := by decide +kernel
theorem dX7_best_133 : decode cX7_best 133 = .ok (.aload_n 0, 1) := by decide +kernel
theorem dX7_best_134 : decode cX7_best 134 = .ok (.getfield 244, 3) := by decide +kernel
theorem dX7_best_137 : decode cX7_best 137 = .ok (.ireturn, 1) := by decide +kernel
set_option maxRecDepth 20000 in
theorem ggX7_leave_X7_isOwner : GoodIn wsX7_leave wsX7_isOwner := goodIn_r _ [5, 6, 7, 8, 4, 9] (by decide +kernel) (by decide +kernel)
set_option maxRecDepth 20000 in
theorem gX7_leave_X7_isOwner : GoodIn wsX7_leave (va_wsS RX7 166 yX7_isOwner wsX7_isOwner) := goodIn_app (goodIn_of _ (by decide +kernel)) ggX7_leave_X7_isOwner
set_option maxRecDepth 20000 in
theorem ggX7_leave_X7_in : GoodIn wsX7_leave wsX7_in := goodIn_r _ [9] (by decide +kernel) (by decide +kernel)
set_option maxRecDepth 20000 in
theorem gX7_leave_X7_in : GoodIn wsX7_leave (va_wsS RX7 46 yX7_in wsX7_in) := goodIn_app (goodIn_of _ (by decide +kernel)) ggX7_leave_X7_in
set_option maxRecDepth 20000 in
theorem ggX7_leave_X7_planGoes : GoodIn wsX7_leave wsX7_planGoes := goodIn_r _ [13, 14, 15, 16, 1, 17, 18, 19, 4, 20, 21, 22, 23, 24, 25, 26, 27, 28, 29, 30, 31, 32, 33, 34, 35, 36, 42, 43, 44, 45, 46, 47, 48, 49, 50, 51, 52, 53, 54, 55, 56, 57, 58, 59, 60, 61, 62, 63, 64, 65, 66, 67, 68, 69, 70, 71, 72, 73, 74, 75] (by decide +kernel) (by decide +kernel)
set_option maxRecDepth 20000 in
theorem gX7_leave_X7_planGoes : GoodIn wsX7_leave (wsV RX7 219 RX7 yX7_planGoes wsX7_planGoes) := goodIn_app (goodIn_of _ (by decide +kernel)) ggX7_leave_X7_planGoes
set_option maxRecDepth 20000 in
theorem ggX7_leave_X7_worthOn : GoodIn wsX7_leave wsX7_worthOn := goodIn_r _ [40, 41, 1, 25, 26, 27, 4, 28, 33, 34, 35, 36, 42, 43, 44, 45, 46, 47, 48, 49, 50, 51, 52, 53, 54, 55, 56, 57, 58, 59, 60, 61, 62, 63, 64, 65, 66, 67, 68, 69, 70, 71, 72, 73, 74, 75] (by decide +kernel) (by decide +kernel)
set_option maxRecDepth 20000 in
theorem gX7_leave_X7_worthOn : GoodIn wsX7_leave (wsV RX7 160 RX7 yX7_worthOn wsX7_worthOn) := goodIn_app (goodIn_of _ (by decide +kernel)) ggX7_leave_X7_worthOn
theorem dX7_leave_0 : decode cX7_leave 0 = .ok (.iload_n 1, 1) := by decide +kernel
theorem dX7_leave_1 : decode cX7_leave 1 = .ok (.invokestatic 166, 3) := by decide +kernel
theorem dX7_leave_4 : decode cX7_leave 4 = .ok (.ifCond .eq 13, 3) := by decide +kernel
theorem dX7_leave_7 : decode cX7_leave 7 = .ok (.iload_n 2, 1) := by decide +kernel
theorem dX7_leave_8 : decode cX7_leave 8 = .ok (.i2l, 1) := by decide +kernel
theorem dX7_leave_9 : decode cX7_leave 9 = .ok (.lconst 0, 1) := by decide +kernel
theorem dX7_leave_10 : decode cX7_leave 10 = .ok (.lconst 1, 1) := by decide +kernel
theorem dX7_leave_11 : decode cX7_leave 11 = .ok (.invokestatic 46, 3) := by decide +kernel
theorem dX7_leave_14 : decode cX7_leave 14 = .ok (.ifCond .ne 5, 3) := by decide +kernel
theorem dX7_leave_17 : decode cX7_leave 17 = .ok (.iconst (-1), 1) := by decide +kernel
theorem dX7_leave_18 : decode cX7_leave 18 = .ok (.ireturn, 1) := by decide +kernel
theorem dX7_leave_19 : decode cX7_leave 19 = .ok (.aload_n 0, 1) := by decide +kernel
theorem dX7_leave_20 : decode cX7_leave 20 = .ok (.bipush (-4), 2) := by decide +kernel
theorem dX7_leave_22 : decode cX7_leave 22 = .ok (.invokevirtual 219, 3) := by decide +kernel
theorem dX7_leave_25 : decode cX7_leave 25 = .ok (.aload_n 0, 1) := by decide +kernel
theorem dX7_leave_26 : decode cX7_leave 26 = .ok (.sipush 240, 3) := by decide +kernel
theorem dX7_leave_29 : decode cX7_leave 29 = .ok (.iload_n 1, 1) := by decide +kernel
theorem dX7_leave_30 : decode cX7_leave 30 = .ok (.invokevirtual 160, 3) := by decide +kernel
theorem dX7_leave_33 : decode cX7_leave 33 = .ok (.istore_n 3, 1) := by decide +kernel
theorem dX7_leave_34 : decode cX7_leave 34 = .ok (.bipush (-4), 2) := by decide +kernel
theorem dX7_leave_36 : decode cX7_leave 36 = .ok (.istore 4, 2) := by decide +kernel
theorem dX7_leave_38 : decode cX7_leave 38 = .ok (.iconst 0, 1) := by decide +kernel
theorem dX7_leave_39 : decode cX7_leave 39 = .ok (.istore 5, 2) := by decide +kernel
theorem dX7_leave_41 : decode cX7_leave 41 = .ok (.iload 5, 2) := by decide +kernel
theorem dX7_leave_43 : decode cX7_leave 43 = .ok (.aload_n 0, 1) := by decide +kernel
theorem dX7_leave_44 : decode cX7_leave 44 = .ok (.getfield 7, 3) := by decide +kernel
theorem dX7_leave_47 : decode cX7_leave 47 = .ok (.bipush 59, 2) := by decide +kernel
theorem dX7_leave_49 : decode cX7_leave 49 = .ok (.iaload, 1) := by decide +kernel
theorem dX7_leave_50 : decode cX7_leave 50 = .ok (.if_icmp .ge 53, 3) := by decide +kernel
theorem dX7_leave_53 : decode cX7_leave 53 = .ok (.aload_n 0, 1) := by decide +kernel
theorem dX7_leave_54 : decode cX7_leave 54 = .ok (.iload 5, 2) := by decide +kernel
theorem dX7_leave_56 : decode cX7_leave 56 = .ok (.invokevirtual 219, 3) := by decide +kernel
theorem dX7_leave_59 : decode cX7_leave 59 = .ok (.aload_n 0, 1) := by decide +kernel
theorem dX7_leave_60 : decode cX7_leave 60 = .ok (.sipush 240, 3) := by decide +kernel
theorem dX7_leave_63 : decode cX7_leave 63 = .ok (.iload_n 1, 1) := by decide +kernel
theorem dX7_leave_64 : decode cX7_leave 64 = .ok (.invokevirtual 160, 3) := by decide +kernel
theorem dX7_leave_67 : decode cX7_leave 67 = .ok (.istore 6, 2) := by decide +kernel
theorem dX7_leave_69 : decode cX7_leave 69 = .ok (.iload 6, 2) := by decide +kernel
theorem dX7_leave_71 : decode cX7_leave 71 = .ok (.iload_n 3, 1) := by decide +kernel
theorem dX7_leave_72 : decode cX7_leave 72 = .ok (.if_icmp .le 8, 3) := by decide +kernel
theorem dX7_leave_75 : decode cX7_leave 75 = .ok (.iload 5, 2) := by decide +kernel
theorem dX7_leave_77 : decode cX7_leave 77 = .ok (.goto 5, 3) := by decide +kernel
theorem dX7_leave_80 : decode cX7_leave 80 = .ok (.iload 4, 2) := by decide +kernel
theorem dX7_leave_82 : decode cX7_leave 82 = .ok (.istore 4, 2) := by decide +kernel
theorem dX7_leave_84 : decode cX7_leave 84 = .ok (.iload 6, 2) := by decide +kernel
theorem dX7_leave_86 : decode cX7_leave 86 = .ok (.iload_n 3, 1) := by decide +kernel
theorem dX7_leave_87 : decode cX7_leave 87 = .ok (.if_icmp .le 8, 3) := by decide +kernel
theorem dX7_leave_90 : decode cX7_leave 90 = .ok (.iload 6, 2) := by decide +kernel
theorem dX7_leave_92 : decode cX7_leave 92 = .ok (.goto 4, 3) := by decide +kernel
theorem dX7_leave_95 : decode cX7_leave 95 = .ok (.iload_n 3, 1) := by decide +kernel
theorem dX7_leave_96 : decode cX7_leave 96 = .ok (.istore_n 3, 1) := by decide +kernel
theorem dX7_leave_97 : decode cX7_leave 97 = .ok (.iinc 5 1, 3) := by decide +kernel
theorem dX7_leave_100 : decode cX7_leave 100 = .ok (.goto (-59), 3) := by decide +kernel
theorem dX7_leave_103 : decode cX7_leave 103 = .ok (.iload 4, 2) := by decide +kernel
theorem dX7_leave_105 : decode cX7_leave 105 = .ok (.bipush (-4), 2) := by decide +kernel
theorem dX7_leave_107 : decode cX7_leave 107 = .ok (.if_icmp .eq 7, 3) := by decide +kernel
theorem dX7_leave_110 : decode cX7_leave 110 = .ok (.iload_n 2, 1) := by decide +kernel
theorem dX7_leave_111 : decode cX7_leave 111 = .ok (.ifCond .ne 8, 3) := by decide +kernel
theorem dX7_leave_114 : decode cX7_leave 114 = .ok (.iload 4, 2) := by decide +kernel
theorem dX7_leave_116 : decode cX7_leave 116 = .ok (.goto 4, 3) := by decide +kernel
theorem dX7_leave_119 : decode cX7_leave 119 = .ok (.iload_n 3, 1) := by decide +kernel
theorem dX7_leave_120 : decode cX7_leave 120 = .ok (.ireturn, 1) := by decide +kernel
set_option maxRecDepth 20000 in
theorem ggX7_sumOf_X7_shareOn : GoodIn wsX7_sumOf wsX7_shareOn := goodIn_r _ [5, 6, 7, 8, 9, 10, 11, 12, 13, 14, 15, 16, 17, 18, 19, 20, 21, 22, 23, 24, 25, 26, 27, 28, 29, 30, 31, 32, 33, 34, 35, 36, 37, 38, 39, 40] (by decide +kernel) (by decide +kernel)
set_option maxRecDepth 20000 in
theorem gX7_sumOf_X7_shareOn : GoodIn wsX7_sumOf (wsV RX7 136 RX7 yX7_shareOn wsX7_shareOn) := goodIn_app (goodIn_of _ (by decide +kernel)) ggX7_sumOf_X7_shareOn
theorem dX7_sumOf_0 : decode cX7_sumOf 0 = .ok (.iconst 0, 1) := by decide +kernel
theorem dX7_sumOf_1 : decode cX7_sumOf 1 = .ok (.istore_n 3, 1) := by decide +kernel
theorem dX7_sumOf_2 : decode cX7_sumOf 2 = .ok (.iconst 0, 1) := by decide +kernel
theorem dX7_sumOf_3 : decode cX7_sumOf 3 = .ok (.istore 4, 2) := by decide +kernel
theorem dX7_sumOf_5 : decode cX7_sumOf 5 = .ok (.iload 4, 2) := by decide +kernel
theorem dX7_sumOf_7 : decode cX7_sumOf 7 = .ok (.iconst 5, 1) := by decide +kernel
theorem dX7_sumOf_8 : decode cX7_sumOf 8 = .ok (.if_icmp .ge 34, 3) := by decide +kernel
theorem dX7_sumOf_11 : decode cX7_sumOf 11 = .ok (.iload_n 3, 1) := by decide +kernel
theorem dX7_sumOf_12 : decode cX7_sumOf 12 = .ok (.iload_n 2, 1) := by decide +kernel
theorem dX7_sumOf_13 : decode cX7_sumOf 13 = .ok (.iload 4, 2) := by decide +kernel
theorem dX7_sumOf_15 : decode cX7_sumOf 15 = .ok (.ishr, 1) := by decide +kernel
theorem dX7_sumOf_16 : decode cX7_sumOf 16 = .ok (.iconst 1, 1) := by decide +kernel
theorem dX7_sumOf_17 : decode cX7_sumOf 17 = .ok (.iand, 1) := by decide +kernel
theorem dX7_sumOf_18 : decode cX7_sumOf 18 = .ok (.iconst 1, 1) := by decide +kernel
theorem dX7_sumOf_19 : decode cX7_sumOf 19 = .ok (.if_icmp .ne 14, 3) := by decide +kernel
theorem dX7_sumOf_22 : decode cX7_sumOf 22 = .ok (.aload_n 0, 1) := by decide +kernel
theorem dX7_sumOf_23 : decode cX7_sumOf 23 = .ok (.iconst 0, 1) := by decide +kernel
theorem dX7_sumOf_24 : decode cX7_sumOf 24 = .ok (.iload_n 1, 1) := by decide +kernel
theorem dX7_sumOf_25 : decode cX7_sumOf 25 = .ok (.iload 4, 2) := by decide +kernel
theorem dX7_sumOf_27 : decode cX7_sumOf 27 = .ok (.invokevirtual 136, 3) := by decide +kernel
theorem dX7_sumOf_30 : decode cX7_sumOf 30 = .ok (.goto 4, 3) := by decide +kernel
theorem dX7_sumOf_33 : decode cX7_sumOf 33 = .ok (.iconst 0, 1) := by decide +kernel
theorem dX7_sumOf_34 : decode cX7_sumOf 34 = .ok (.iadd, 1) := by decide +kernel
theorem dX7_sumOf_35 : decode cX7_sumOf 35 = .ok (.istore_n 3, 1) := by decide +kernel
theorem dX7_sumOf_36 : decode cX7_sumOf 36 = .ok (.iinc 4 1, 3) := by decide +kernel
theorem dX7_sumOf_39 : decode cX7_sumOf 39 = .ok (.goto (-34), 3) := by decide +kernel
theorem dX7_sumOf_42 : decode cX7_sumOf 42 = .ok (.iload_n 3, 1) := by decide +kernel
theorem dX7_sumOf_43 : decode cX7_sumOf 43 = .ok (.ireturn, 1) := by decide +kernel
set_option maxRecDepth 20000 in
theorem ggX7_swingsOf_X7_feathersOn : GoodIn wsX7_swingsOf wsX7_feathersOn := goodIn_r _ [5, 6, 7, 8, 4, 9, 10, 15, 16, 17, 18, 19, 20, 21, 22, 23, 24, 25, 26, 27, 28, 29, 30, 31, 32, 33, 34, 35, 36, 37, 38, 39, 40, 41, 42, 43, 44, 45, 46, 47, 48] (by decide +kernel) (by decide +kernel)
set_option maxRecDepth 20000 in
theorem gX7_swingsOf_X7_feathersOn : GoodIn wsX7_swingsOf (wsV RX7 139 RX7 yX7_feathersOn wsX7_feathersOn) := goodIn_app (goodIn_of _ (by decide +kernel)) ggX7_swingsOf_X7_feathersOn
set_option maxRecDepth 20000 in
theorem ggX7_swingsOf_X7_sumOf : GoodIn wsX7_swingsOf wsX7_sumOf := goodIn_r _ [14, 6, 7, 8, 4, 9, 10, 15, 16, 17, 18, 19, 20, 21, 22, 23, 24, 25, 26, 27, 28, 29, 30, 31, 32, 33, 34, 35, 36, 37, 38, 39, 40, 41, 42, 43, 44, 45, 46, 47, 48] (by decide +kernel) (by decide +kernel)
set_option maxRecDepth 20000 in
theorem gX7_swingsOf_X7_sumOf : GoodIn wsX7_swingsOf (wsV RX7 262 RX7 yX7_sumOf wsX7_sumOf) := goodIn_app (goodIn_of _ (by decide +kernel)) ggX7_swingsOf_X7_sumOf
theorem dX7_swingsOf_0 : decode cX7_swingsOf 0 = .ok (.aload_n 0, 1) := by decide +kernel
theorem dX7_swingsOf_1 : decode cX7_swingsOf 1 = .ok (.iconst 0, 1) := by decide +kernel
theorem dX7_swingsOf_2 : decode cX7_swingsOf 2 = .ok (.iload_n 1, 1) := by decide +kernel
theorem dX7_swingsOf_3 : decode cX7_swingsOf 3 = .ok (.invokevirtual 139, 3) := by decide +kernel
theorem dX7_swingsOf_6 : decode cX7_swingsOf 6 = .ok (.istore_n 3, 1) := by decide +kernel
theorem dX7_swingsOf_7 : decode cX7_swingsOf 7 = .ok (.iconst 0, 1) := by decide +kernel
theorem dX7_swingsOf_8 : decode cX7_swingsOf 8 = .ok (.istore 4, 2) := by decide +kernel
theorem dX7_swingsOf_10 : decode cX7_swingsOf 10 = .ok (.iconst 0, 1) := by decide +kernel
theorem dX7_swingsOf_11 : decode cX7_swingsOf 11 = .ok (.istore 5, 2) := by decide +kernel
theorem dX7_swingsOf_13 : decode cX7_swingsOf 13 = .ok (.iload 5, 2) := by decide +kernel
theorem dX7_swingsOf_15 : decode cX7_swingsOf 15 = .ok (.bipush 32, 2) := by decide +kernel
theorem dX7_swingsOf_17 : decode cX7_swingsOf 17 = .ok (.if_icmp .ge 70, 3) := by decide +kernel
theorem dX7_swingsOf_20 : decode cX7_swingsOf 20 = .ok (.iload 5, 2) := by decide +kernel
theorem dX7_swingsOf_22 : decode cX7_swingsOf 22 = .ok (.iload_n 2, 1) := by decide +kernel
theorem dX7_swingsOf_23 : decode cX7_swingsOf 23 = .ok (.ishr, 1) := by decide +kernel
theorem dX7_swingsOf_24 : decode cX7_swingsOf 24 = .ok (.iconst 1, 1) := by decide +kernel
theorem dX7_swingsOf_25 : decode cX7_swingsOf 25 = .ok (.iand, 1) := by decide +kernel
theorem dX7_swingsOf_26 : decode cX7_swingsOf 26 = .ok (.ifCond .ne 7, 3) := by decide +kernel
theorem dX7_swingsOf_29 : decode cX7_swingsOf 29 = .ok (.iconst 1, 1) := by decide +kernel
theorem dX7_swingsOf_30 : decode cX7_swingsOf 30 = .ok (.goto 4, 3) := by decide +kernel
theorem dX7_swingsOf_33 : decode cX7_swingsOf 33 = .ok (.iconst 0, 1) := by decide +kernel
theorem dX7_swingsOf_34 : decode cX7_swingsOf 34 = .ok (.istore 6, 2) := by decide +kernel
theorem dX7_swingsOf_36 : decode cX7_swingsOf 36 = .ok (.iload 4, 2) := by decide +kernel
theorem dX7_swingsOf_38 : decode cX7_swingsOf 38 = .ok (.iload 6, 2) := by decide +kernel
theorem dX7_swingsOf_40 : decode cX7_swingsOf 40 = .ok (.ifCond .eq 37, 3) := by decide +kernel
theorem dX7_swingsOf_43 : decode cX7_swingsOf 43 = .ok (.iconst 2, 1) := by decide +kernel
theorem dX7_swingsOf_44 : decode cX7_swingsOf 44 = .ok (.aload_n 0, 1) := by decide +kernel
theorem dX7_swingsOf_45 : decode cX7_swingsOf 45 = .ok (.iload_n 1, 1) := by decide +kernel
theorem dX7_swingsOf_46 : decode cX7_swingsOf 46 = .ok (.iload 5, 2) := by decide +kernel
theorem dX7_swingsOf_48 : decode cX7_swingsOf 48 = .ok (.invokevirtual 262, 3) := by decide +kernel
theorem dX7_swingsOf_51 : decode cX7_swingsOf 51 = .ok (.imul, 1) := by decide +kernel
theorem dX7_swingsOf_52 : decode cX7_swingsOf 52 = .ok (.iload_n 3, 1) := by decide +kernel
theorem dX7_swingsOf_53 : decode cX7_swingsOf 53 = .ok (.if_icmp .gt 24, 3) := by decide +kernel
theorem dX7_swingsOf_56 : decode cX7_swingsOf 56 = .ok (.iconst 2, 1) := by decide +kernel
theorem dX7_swingsOf_57 : decode cX7_swingsOf 57 = .ok (.aload_n 0, 1) := by decide +kernel
theorem dX7_swingsOf_58 : decode cX7_swingsOf 58 = .ok (.iload_n 1, 1) := by decide +kernel
theorem dX7_swingsOf_59 : decode cX7_swingsOf 59 = .ok (.iload 5, 2) := by decide +kernel
theorem dX7_swingsOf_61 : decode cX7_swingsOf 61 = .ok (.iconst 1, 1) := by decide +kernel
theorem dX7_swingsOf_62 : decode cX7_swingsOf 62 = .ok (.iload_n 2, 1) := by decide +kernel
theorem dX7_swingsOf_63 : decode cX7_swingsOf 63 = .ok (.ishl, 1) := by decide +kernel
theorem dX7_swingsOf_64 : decode cX7_swingsOf 64 = .ok (.ior, 1) := by decide +kernel
theorem dX7_swingsOf_65 : decode cX7_swingsOf 65 = .ok (.invokevirtual 262, 3) := by decide +kernel
theorem dX7_swingsOf_68 : decode cX7_swingsOf 68 = .ok (.imul, 1) := by decide +kernel
theorem dX7_swingsOf_69 : decode cX7_swingsOf 69 = .ok (.iload_n 3, 1) := by decide +kernel
theorem dX7_swingsOf_70 : decode cX7_swingsOf 70 = .ok (.if_icmp .le 7, 3) := by decide +kernel
theorem dX7_swingsOf_73 : decode cX7_swingsOf 73 = .ok (.iconst 1, 1) := by decide +kernel
theorem dX7_swingsOf_74 : decode cX7_swingsOf 74 = .ok (.goto 4, 3) := by decide +kernel
theorem dX7_swingsOf_77 : decode cX7_swingsOf 77 = .ok (.iconst 0, 1) := by decide +kernel
theorem dX7_swingsOf_78 : decode cX7_swingsOf 78 = .ok (.iadd, 1) := by decide +kernel
theorem dX7_swingsOf_79 : decode cX7_swingsOf 79 = .ok (.istore 4, 2) := by decide +kernel
theorem dX7_swingsOf_81 : decode cX7_swingsOf 81 = .ok (.iinc 5 1, 3) := by decide +kernel
theorem dX7_swingsOf_84 : decode cX7_swingsOf 84 = .ok (.goto (-71), 3) := by decide +kernel
theorem dX7_swingsOf_87 : decode cX7_swingsOf 87 = .ok (.iload 4, 2) := by decide +kernel
theorem dX7_swingsOf_89 : decode cX7_swingsOf 89 = .ok (.ireturn, 1) := by decide +kernel
set_option maxRecDepth 20000 in
theorem ggX7_swings_X7_isGoose : GoodIn wsX7_swings wsX7_isGoose := goodIn_r _ [5, 6, 7, 8, 4, 9, 31, 32, 33, 34, 35, 36, 37, 38, 39, 40, 41, 42, 43, 44, 45, 46, 47, 48, 49, 50, 51, 52, 53, 54, 55, 56, 57, 58, 59, 60, 61, 62, 63, 64] (by decide +kernel) (by decide +kernel)
set_option maxRecDepth 20000 in
theorem gX7_swings_X7_isGoose : GoodIn wsX7_swings (wsV RX7 156 RX7 yX7_isGoose wsX7_isGoose) := goodIn_app (goodIn_of _ (by decide +kernel)) ggX7_swings_X7_isGoose
set_option maxRecDepth 20000 in
theorem ggX7_swings_X7_isOwner : GoodIn wsX7_swings wsX7_isOwner := goodIn_r _ [12, 13, 7, 8, 4, 9] (by decide +kernel) (by decide +kernel)
set_option maxRecDepth 20000 in
theorem gX7_swings_X7_isOwner : GoodIn wsX7_swings (va_wsS RX7 166 yX7_isOwner wsX7_isOwner) := goodIn_app (goodIn_of _ (by decide +kernel)) ggX7_swings_X7_isOwner
set_option maxRecDepth 20000 in
theorem ggX7_swings_X7_swingsOf : GoodIn wsX7_swings wsX7_swingsOf := goodIn_r _ [17, 18, 19, 20, 4, 21, 22, 23, 24, 25, 26, 27, 28, 29, 30, 31, 32, 33, 34, 35, 36, 37, 38, 39, 40, 41, 42, 43, 44, 45, 46, 47, 48, 49, 50, 51, 52, 53, 54, 55, 56, 57, 58, 59, 60, 61, 62, 63, 64] (by decide +kernel) (by decide +kernel)
set_option maxRecDepth 20000 in
theorem gX7_swings_X7_swingsOf : GoodIn wsX7_swings (wsV RX7 265 RX7 yX7_swingsOf wsX7_swingsOf) := goodIn_app (goodIn_of _ (by decide +kernel)) ggX7_swings_X7_swingsOf
theorem dX7_swings_0 : decode cX7_swings 0 = .ok (.aload_n 0, 1) := by decide +kernel
theorem dX7_swings_1 : decode cX7_swings 1 = .ok (.iload_n 1, 1) := by decide +kernel
theorem dX7_swings_2 : decode cX7_swings 2 = .ok (.invokevirtual 156, 3) := by decide +kernel
theorem dX7_swings_5 : decode cX7_swings 5 = .ok (.ifCond .eq 19, 3) := by decide +kernel
theorem dX7_swings_8 : decode cX7_swings 8 = .ok (.iload_n 2, 1) := by decide +kernel
theorem dX7_swings_9 : decode cX7_swings 9 = .ok (.invokestatic 166, 3) := by decide +kernel
theorem dX7_swings_12 : decode cX7_swings 12 = .ok (.ifCond .eq 12, 3) := by decide +kernel
theorem dX7_swings_15 : decode cX7_swings 15 = .ok (.aload_n 0, 1) := by decide +kernel
theorem dX7_swings_16 : decode cX7_swings 16 = .ok (.iload_n 1, 1) := by decide +kernel
theorem dX7_swings_17 : decode cX7_swings 17 = .ok (.iload_n 2, 1) := by decide +kernel
theorem dX7_swings_18 : decode cX7_swings 18 = .ok (.invokevirtual 265, 3) := by decide +kernel
theorem dX7_swings_21 : decode cX7_swings 21 = .ok (.goto 4, 3) := by decide +kernel
theorem dX7_swings_24 : decode cX7_swings 24 = .ok (.iconst (-1), 1) := by decide +kernel
theorem dX7_swings_25 : decode cX7_swings 25 = .ok (.ireturn, 1) := by decide +kernel
theorem dX7_lowest_0 : decode cX7_lowest 0 = .ok (.lload_n 0, 1) := by decide +kernel
theorem dX7_lowest_1 : decode cX7_lowest 1 = .ok (.lstore 5, 2) := by decide +kernel
theorem dX7_lowest_3 : decode cX7_lowest 3 = .ok (.lload_n 2, 1) := by decide +kernel
theorem dX7_lowest_4 : decode cX7_lowest 4 = .ok (.lstore 7, 2) := by decide +kernel
theorem dX7_lowest_6 : decode cX7_lowest 6 = .ok (.lload 7, 2) := by decide +kernel
theorem dX7_lowest_8 : decode cX7_lowest 8 = .ok (.lconst 0, 1) := by decide +kernel
theorem dX7_lowest_9 : decode cX7_lowest 9 = .ok (.lcmp, 1) := by decide +kernel
theorem dX7_lowest_10 : decode cX7_lowest 10 = .ok (.ifCond .eq 21, 3) := by decide +kernel
theorem dX7_lowest_13 : decode cX7_lowest 13 = .ok (.lload 5, 2) := by decide +kernel
theorem dX7_lowest_15 : decode cX7_lowest 15 = .ok (.lload 7, 2) := by decide +kernel
theorem dX7_lowest_17 : decode cX7_lowest 17 = .ok (.lrem, 1) := by decide +kernel
theorem dX7_lowest_18 : decode cX7_lowest 18 = .ok (.lstore 9, 2) := by decide +kernel
theorem dX7_lowest_20 : decode cX7_lowest 20 = .ok (.lload 7, 2) := by decide +kernel
theorem dX7_lowest_22 : decode cX7_lowest 22 = .ok (.lstore 5, 2) := by decide +kernel
theorem dX7_lowest_24 : decode cX7_lowest 24 = .ok (.lload 9, 2) := by decide +kernel
theorem dX7_lowest_26 : decode cX7_lowest 26 = .ok (.lstore 7, 2) := by decide +kernel
theorem dX7_lowest_28 : decode cX7_lowest 28 = .ok (.goto (-22), 3) := by decide +kernel
theorem dX7_lowest_31 : decode cX7_lowest 31 = .ok (.iload 4, 2) := by decide +kernel
theorem dX7_lowest_33 : decode cX7_lowest 33 = .ok (.ifCond .ne 7, 3) := by decide +kernel
theorem dX7_lowest_36 : decode cX7_lowest 36 = .ok (.lload_n 0, 1) := by decide +kernel
theorem dX7_lowest_37 : decode cX7_lowest 37 = .ok (.goto 4, 3) := by decide +kernel
theorem dX7_lowest_40 : decode cX7_lowest 40 = .ok (.lload_n 2, 1) := by decide +kernel
theorem dX7_lowest_41 : decode cX7_lowest 41 = .ok (.lload 5, 2) := by decide +kernel
theorem dX7_lowest_43 : decode cX7_lowest 43 = .ok (.ldiv, 1) := by decide +kernel
theorem dX7_lowest_44 : decode cX7_lowest 44 = .ok (.lreturn, 1) := by decide +kernel
set_option maxRecDepth 20000 in
theorem ggX7_power_X7_isGoose : GoodIn wsX7_power wsX7_isGoose := goodIn_r _ [6, 7, 8, 9, 5, 10, 35, 36, 37, 38, 39, 40, 41, 42, 43, 44, 45, 46, 47, 48, 49, 50, 51, 52, 53, 54, 55, 56, 57, 58, 59, 60, 61, 62, 63, 64, 65, 66, 67, 68] (by decide +kernel) (by decide +kernel)
set_option maxRecDepth 20000 in
theorem gX7_power_X7_isGoose : GoodIn wsX7_power (wsV RX7 156 RX7 yX7_isGoose wsX7_isGoose) := goodIn_app (goodIn_of _ (by decide +kernel)) ggX7_power_X7_isGoose
set_option maxRecDepth 20000 in
theorem ggX7_power_X7_isOwner : GoodIn wsX7_power wsX7_isOwner := goodIn_r _ [13, 14, 8, 9, 5, 10] (by decide +kernel) (by decide +kernel)
set_option maxRecDepth 20000 in
theorem gX7_power_X7_isOwner : GoodIn wsX7_power (va_wsS RX7 166 yX7_isOwner wsX7_isOwner) := goodIn_app (goodIn_of _ (by decide +kernel)) ggX7_power_X7_isOwner
set_option maxRecDepth 20000 in
theorem ggX7_power_X7_in : GoodIn wsX7_power wsX7_in := goodIn_r _ [10] (by decide +kernel) (by decide +kernel)
set_option maxRecDepth 20000 in
theorem gX7_power_X7_in : GoodIn wsX7_power (va_wsS RX7 46 yX7_in wsX7_in) := goodIn_app (goodIn_of _ (by decide +kernel)) ggX7_power_X7_in
set_option maxRecDepth 20000 in
theorem ggX7_power_X7_swingsOf : GoodIn wsX7_power wsX7_swingsOf := goodIn_r _ [18, 19, 20, 21, 5, 22, 23, 24, 25, 26, 27, 28, 29, 30, 31, 35, 36, 37, 38, 39, 40, 41, 42, 43, 44, 45, 46, 47, 48, 49, 50, 51, 52, 53, 54, 55, 56, 57, 58, 59, 60, 61, 62, 63, 64, 65, 66, 67, 68] (by decide +kernel) (by decide +kernel)
set_option maxRecDepth 20000 in
theorem gX7_power_X7_swingsOf : GoodIn wsX7_power (wsV RX7 265 RX7 yX7_swingsOf wsX7_swingsOf) := goodIn_app (goodIn_of _ (by decide +kernel)) ggX7_power_X7_swingsOf
set_option maxRecDepth 20000 in
theorem ggX7_power_X7_lowest : GoodIn wsX7_power wsX7_lowest := goodIn_r _ [34] (by decide +kernel) (by decide +kernel)
set_option maxRecDepth 20000 in
theorem gX7_power_X7_lowest : GoodIn wsX7_power (va_wsS RX7 270 yX7_lowest wsX7_lowest) := goodIn_app (goodIn_of _ (by decide +kernel)) ggX7_power_X7_lowest
theorem dX7_power_0 : decode cX7_power 0 = .ok (.aload_n 0, 1) := by decide +kernel
theorem dX7_power_1 : decode cX7_power 1 = .ok (.iload_n 1, 1) := by decide +kernel
theorem dX7_power_2 : decode cX7_power 2 = .ok (.invokevirtual 156, 3) := by decide +kernel
theorem dX7_power_5 : decode cX7_power 5 = .ok (.ifCond .eq 20, 3) := by decide +kernel
theorem dX7_power_8 : decode cX7_power 8 = .ok (.iload_n 2, 1) := by decide +kernel
theorem dX7_power_9 : decode cX7_power 9 = .ok (.invokestatic 166, 3) := by decide +kernel
theorem dX7_power_12 : decode cX7_power 12 = .ok (.ifCond .eq 13, 3) := by decide +kernel
theorem dX7_power_15 : decode cX7_power 15 = .ok (.iload_n 3, 1) := by decide +kernel
theorem dX7_power_16 : decode cX7_power 16 = .ok (.i2l, 1) := by decide +kernel
theorem dX7_power_17 : decode cX7_power 17 = .ok (.lconst 0, 1) := by decide +kernel
theorem dX7_power_18 : decode cX7_power 18 = .ok (.lconst 1, 1) := by decide +kernel
theorem dX7_power_19 : decode cX7_power 19 = .ok (.invokestatic 46, 3) := by decide +kernel
theorem dX7_power_22 : decode cX7_power 22 = .ok (.ifCond .ne 7, 3) := by decide +kernel
theorem dX7_power_25 : decode cX7_power 25 = .ok (.ldc2_w 268, 3) := by decide +kernel
theorem dX7_power_28 : decode cX7_power 28 = .ok (.lreturn, 1) := by decide +kernel
theorem dX7_power_29 : decode cX7_power 29 = .ok (.iconst 0, 1) := by decide +kernel
theorem dX7_power_30 : decode cX7_power 30 = .ok (.istore 4, 2) := by decide +kernel
theorem dX7_power_32 : decode cX7_power 32 = .ok (.iconst 0, 1) := by decide +kernel
theorem dX7_power_33 : decode cX7_power 33 = .ok (.istore 5, 2) := by decide +kernel
theorem dX7_power_35 : decode cX7_power 35 = .ok (.iload 5, 2) := by decide +kernel
theorem dX7_power_37 : decode cX7_power 37 = .ok (.iconst 5, 1) := by decide +kernel
theorem dX7_power_38 : decode cX7_power 38 = .ok (.if_icmp .ge 21, 3) := by decide +kernel
theorem dX7_power_41 : decode cX7_power 41 = .ok (.iload 4, 2) := by decide +kernel
theorem dX7_power_43 : decode cX7_power 43 = .ok (.aload_n 0, 1) := by decide +kernel
theorem dX7_power_44 : decode cX7_power 44 = .ok (.iload_n 1, 1) := by decide +kernel
theorem dX7_power_45 : decode cX7_power 45 = .ok (.iload 5, 2) := by decide +kernel
theorem dX7_power_47 : decode cX7_power 47 = .ok (.invokevirtual 265, 3) := by decide +kernel
theorem dX7_power_50 : decode cX7_power 50 = .ok (.iadd, 1) := by decide +kernel
theorem dX7_power_51 : decode cX7_power 51 = .ok (.istore 4, 2) := by decide +kernel
theorem dX7_power_53 : decode cX7_power 53 = .ok (.iinc 5 1, 3) := by decide +kernel
theorem dX7_power_56 : decode cX7_power 56 = .ok (.goto (-21), 3) := by decide +kernel
theorem dX7_power_59 : decode cX7_power 59 = .ok (.aload_n 0, 1) := by decide +kernel
theorem dX7_power_60 : decode cX7_power 60 = .ok (.iload_n 1, 1) := by decide +kernel
theorem dX7_power_61 : decode cX7_power 61 = .ok (.iload_n 2, 1) := by decide +kernel
theorem dX7_power_62 : decode cX7_power 62 = .ok (.invokevirtual 265, 3) := by decide +kernel
theorem dX7_power_65 : decode cX7_power 65 = .ok (.i2l, 1) := by decide +kernel
theorem dX7_power_66 : decode cX7_power 66 = .ok (.iload 4, 2) := by decide +kernel
theorem dX7_power_68 : decode cX7_power 68 = .ok (.ifCond .ne 7, 3) := by decide +kernel
theorem dX7_power_71 : decode cX7_power 71 = .ok (.lconst 1, 1) := by decide +kernel
theorem dX7_power_72 : decode cX7_power 72 = .ok (.goto 6, 3) := by decide +kernel
theorem dX7_power_75 : decode cX7_power 75 = .ok (.iload 4, 2) := by decide +kernel
theorem dX7_power_77 : decode cX7_power 77 = .ok (.i2l, 1) := by decide +kernel
theorem dX7_power_78 : decode cX7_power 78 = .ok (.iload_n 3, 1) := by decide +kernel
theorem dX7_power_79 : decode cX7_power 79 = .ok (.invokestatic 270, 3) := by decide +kernel
theorem dX7_power_82 : decode cX7_power 82 = .ok (.lreturn, 1) := by decide +kernel
set_option maxRecDepth 20000 in
theorem ggX7_reign_X7_isGoose : GoodIn wsX7_reign wsX7_isGoose := goodIn_r _ [5, 6, 7, 8, 4, 9, 23, 24, 25, 26, 27, 28, 29, 30, 31, 32, 33, 34, 35, 36, 37, 38, 39, 40, 41, 42, 43, 44, 45, 46, 47, 48, 49, 50, 51, 52, 53, 54, 55, 56] (by decide +kernel) (by decide +kernel)
set_option maxRecDepth 20000 in
theorem gX7_reign_X7_isGoose : GoodIn wsX7_reign (wsV RX7 156 RX7 yX7_isGoose wsX7_isGoose) := goodIn_app (goodIn_of _ (by decide +kernel)) ggX7_reign_X7_isGoose
set_option maxRecDepth 20000 in
theorem ggX7_reign_X7_isOwner : GoodIn wsX7_reign wsX7_isOwner := goodIn_r _ [12, 13, 7, 8, 4, 9] (by decide +kernel) (by decide +kernel)
set_option maxRecDepth 20000 in
theorem gX7_reign_X7_isOwner : GoodIn wsX7_reign (va_wsS RX7 166 yX7_isOwner wsX7_isOwner) := goodIn_app (goodIn_of _ (by decide +kernel)) ggX7_reign_X7_isOwner
set_option maxRecDepth 20000 in
theorem ggX7_reign_X7_feathersOn : GoodIn wsX7_reign wsX7_feathersOn := goodIn_r _ [17, 18, 19, 20, 4, 21, 22, 23, 24, 25, 26, 27, 28, 29, 30, 31, 32, 33, 34, 35, 36, 37, 38, 39, 40, 41, 42, 43, 44, 45, 46, 47, 48, 49, 50, 51, 52, 53, 54, 55, 56] (by decide +kernel) (by decide +kernel)
set_option maxRecDepth 20000 in
theorem gX7_reign_X7_feathersOn : GoodIn wsX7_reign (wsV RX7 139 RX7 yX7_feathersOn wsX7_feathersOn) := goodIn_app (goodIn_of _ (by decide +kernel)) ggX7_reign_X7_feathersOn
set_option maxRecDepth 20000 in
theorem ggX7_reign_X7_shareOn : GoodIn wsX7_reign wsX7_shareOn := goodIn_r _ [21, 22, 23, 24, 25, 26, 27, 28, 29, 30, 31, 32, 33, 34, 35, 36, 37, 38, 39, 40, 41, 42, 43, 44, 45, 46, 47, 48, 49, 50, 51, 52, 53, 54, 55, 56] (by decide +kernel) (by decide +kernel)
set_option maxRecDepth 20000 in
theorem gX7_reign_X7_shareOn : GoodIn wsX7_reign (wsV RX7 136 RX7 yX7_shareOn wsX7_shareOn) := goodIn_app (goodIn_of _ (by decide +kernel)) ggX7_reign_X7_shareOn
theorem dX7_reign_0 : decode cX7_reign 0 = .ok (.aload_n 0, 1) := by decide +kernel
theorem dX7_reign_1 : decode cX7_reign 1 = .ok (.iload_n 1, 1) := by decide +kernel
theorem dX7_reign_2 : decode cX7_reign 2 = .ok (.invokevirtual 156, 3) := by decide +kernel
theorem dX7_reign_5 : decode cX7_reign 5 = .ok (.ifCond .eq 10, 3) := by decide +kernel
theorem dX7_reign_8 : decode cX7_reign 8 = .ok (.iload_n 2, 1) := by decide +kernel
theorem dX7_reign_9 : decode cX7_reign 9 = .ok (.invokestatic 166, 3) := by decide +kernel
theorem dX7_reign_12 : decode cX7_reign 12 = .ok (.ifCond .ne 5, 3) := by decide +kernel
theorem dX7_reign_15 : decode cX7_reign 15 = .ok (.iconst (-1), 1) := by decide +kernel
theorem dX7_reign_16 : decode cX7_reign 16 = .ok (.ireturn, 1) := by decide +kernel
theorem dX7_reign_17 : decode cX7_reign 17 = .ok (.aload_n 0, 1) := by decide +kernel
theorem dX7_reign_18 : decode cX7_reign 18 = .ok (.iconst 0, 1) := by decide +kernel
theorem dX7_reign_19 : decode cX7_reign 19 = .ok (.iload_n 1, 1) := by decide +kernel
theorem dX7_reign_20 : decode cX7_reign 20 = .ok (.invokevirtual 139, 3) := by decide +kernel
theorem dX7_reign_23 : decode cX7_reign 23 = .ok (.aload_n 0, 1) := by decide +kernel
theorem dX7_reign_24 : decode cX7_reign 24 = .ok (.iconst 0, 1) := by decide +kernel
theorem dX7_reign_25 : decode cX7_reign 25 = .ok (.iload_n 1, 1) := by decide +kernel
theorem dX7_reign_26 : decode cX7_reign 26 = .ok (.iload_n 2, 1) := by decide +kernel
theorem dX7_reign_27 : decode cX7_reign 27 = .ok (.invokevirtual 136, 3) := by decide +kernel
theorem dX7_reign_30 : decode cX7_reign 30 = .ok (.isub, 1) := by decide +kernel
theorem dX7_reign_31 : decode cX7_reign 31 = .ok (.istore_n 3, 1) := by decide +kernel
theorem dX7_reign_32 : decode cX7_reign 32 = .ok (.iload_n 3, 1) := by decide +kernel
theorem dX7_reign_33 : decode cX7_reign 33 = .ok (.bipush 99, 2) := by decide +kernel
theorem dX7_reign_35 : decode cX7_reign 35 = .ok (.if_icmp .ge 9, 3) := by decide +kernel
theorem dX7_reign_38 : decode cX7_reign 38 = .ok (.iload_n 3, 1) := by decide +kernel
theorem dX7_reign_39 : decode cX7_reign 39 = .ok (.iconst 1, 1) := by decide +kernel
theorem dX7_reign_40 : decode cX7_reign 40 = .ok (.iadd, 1) := by decide +kernel
theorem dX7_reign_41 : decode cX7_reign 41 = .ok (.goto 5, 3) := by decide +kernel
theorem dX7_reign_44 : decode cX7_reign 44 = .ok (.bipush (-4), 2) := by decide +kernel
theorem dX7_reign_46 : decode cX7_reign 46 = .ok (.ireturn, 1) := by decide +kernel
set_option maxRecDepth 20000 in
theorem ggX7_byMoults_X7_copies : GoodIn wsX7_byMoults wsX7_copies := goodIn_r _ [6, 7, 35, 36, 37, 38, 39, 40, 41, 42, 43, 44, 45, 46, 47, 48, 49, 50, 51, 52, 53, 54, 55, 56, 57, 58, 59, 60, 61, 62, 63, 64, 65, 66, 67, 68] (by decide +kernel) (by decide +kernel)
set_option maxRecDepth 20000 in
theorem gX7_byMoults_X7_copies : GoodIn wsX7_byMoults (wsV RX7 205 RX7 yX7_copies wsX7_copies) := goodIn_app (goodIn_of _ (by decide +kernel)) ggX7_byMoults_X7_copies
set_option maxRecDepth 20000 in
theorem ggX7_byMoults_X7_weekOn : GoodIn wsX7_byMoults wsX7_weekOn := goodIn_r _ [11, 12, 7, 13, 14, 15, 5, 16, 17, 18, 19, 20, 21, 22, 23, 24, 25, 26, 27, 28, 29, 30, 31, 35, 36, 37, 38, 39, 40, 41, 42, 43, 44, 45, 46, 47, 48, 49, 50, 51, 52, 53, 54, 55, 56, 57, 58, 59, 60, 61, 62, 63, 64, 65, 66, 67, 68] (by decide +kernel) (by decide +kernel)
set_option maxRecDepth 20000 in
theorem gX7_byMoults_X7_weekOn : GoodIn wsX7_byMoults (wsV RX7 201 RX7 yX7_weekOn wsX7_weekOn) := goodIn_app (goodIn_of _ (by decide +kernel)) ggX7_byMoults_X7_weekOn
set_option maxRecDepth 20000 in
theorem ggX7_byMoults_X7_feathersOn : GoodIn wsX7_byMoults wsX7_feathersOn := goodIn_r _ [24, 17, 18, 19, 5, 20, 7, 35, 36, 37, 38, 39, 40, 41, 42, 43, 44, 45, 46, 47, 48, 49, 50, 51, 52, 53, 54, 55, 56, 57, 58, 59, 60, 61, 62, 63, 64, 65, 66, 67, 68] (by decide +kernel) (by decide +kernel)
set_option maxRecDepth 20000 in
theorem gX7_byMoults_X7_feathersOn : GoodIn wsX7_byMoults (wsV RX7 139 RX7 yX7_feathersOn wsX7_feathersOn) := goodIn_app (goodIn_of _ (by decide +kernel)) ggX7_byMoults_X7_feathersOn
set_option maxRecDepth 20000 in
theorem ggX7_byMoults_X7_eggOn : GoodIn wsX7_byMoults wsX7_eggOn := goodIn_r _ [16, 7, 17, 18, 19, 5, 20, 21, 22, 23, 24, 35, 36, 37, 38, 39, 40, 41, 42, 43, 44, 45, 46, 47, 48, 49, 50, 51, 52, 53, 54, 55, 56, 57, 58, 59, 60, 61, 62, 63, 64, 65, 66, 67, 68] (by decide +kernel) (by decide +kernel)
set_option maxRecDepth 20000 in
theorem gX7_byMoults_X7_eggOn : GoodIn wsX7_byMoults (wsV RX7 143 RX7 yX7_eggOn wsX7_eggOn) := goodIn_app (goodIn_of _ (by decide +kernel)) ggX7_byMoults_X7_eggOn
set_option maxRecDepth 20000 in
theorem ggX7_byMoults_X7_lowest : GoodIn wsX7_byMoults wsX7_lowest := goodIn_r _ [34] (by decide +kernel) (by decide +kernel)
set_option maxRecDepth 20000 in
theorem gX7_byMoults_X7_lowest : GoodIn wsX7_byMoults (va_wsS RX7 270 yX7_lowest wsX7_lowest) := goodIn_app (goodIn_of _ (by decide +kernel)) ggX7_byMoults_X7_lowest
theorem dX7_byMoults_0 : decode cX7_byMoults 0 = .ok (.lconst 0, 1) := by decide +kernel
theorem dX7_byMoults_1 : decode cX7_byMoults 1 = .ok (.lstore 6, 2) := by decide +kernel
theorem dX7_byMoults_3 : decode cX7_byMoults 3 = .ok (.lconst 1, 1) := by decide +kernel
theorem dX7_byMoults_4 : decode cX7_byMoults 4 = .ok (.lstore 8, 2) := by decide +kernel
theorem dX7_byMoults_6 : decode cX7_byMoults 6 = .ok (.iconst 0, 1) := by decide +kernel
theorem dX7_byMoults_7 : decode cX7_byMoults 7 = .ok (.istore 10, 2) := by decide +kernel
theorem dX7_byMoults_9 : decode cX7_byMoults 9 = .ok (.iload 10, 2) := by decide +kernel
theorem dX7_byMoults_11 : decode cX7_byMoults 11 = .ok (.iload 4, 2) := by decide +kernel
theorem dX7_byMoults_13 : decode cX7_byMoults 13 = .ok (.if_icmp .ge 17, 3) := by decide +kernel
theorem dX7_byMoults_16 : decode cX7_byMoults 16 = .ok (.lload 8, 2) := by decide +kernel
theorem dX7_byMoults_18 : decode cX7_byMoults 18 = .ok (.ldc2_w 255, 3) := by decide +kernel
theorem dX7_byMoults_21 : decode cX7_byMoults 21 = .ok (.lmul, 1) := by decide +kernel
theorem dX7_byMoults_22 : decode cX7_byMoults 22 = .ok (.lstore 8, 2) := by decide +kernel
theorem dX7_byMoults_24 : decode cX7_byMoults 24 = .ok (.iinc 10 1, 3) := by decide +kernel
theorem dX7_byMoults_27 : decode cX7_byMoults 27 = .ok (.goto (-18), 3) := by decide +kernel
theorem dX7_byMoults_30 : decode cX7_byMoults 30 = .ok (.iconst 0, 1) := by decide +kernel
theorem dX7_byMoults_31 : decode cX7_byMoults 31 = .ok (.istore 10, 2) := by decide +kernel
theorem dX7_byMoults_33 : decode cX7_byMoults 33 = .ok (.iload 10, 2) := by decide +kernel
theorem dX7_byMoults_35 : decode cX7_byMoults 35 = .ok (.iconst 1, 1) := by decide +kernel
theorem dX7_byMoults_36 : decode cX7_byMoults 36 = .ok (.iload 4, 2) := by decide +kernel
theorem dX7_byMoults_38 : decode cX7_byMoults 38 = .ok (.ishl, 1) := by decide +kernel
theorem dX7_byMoults_39 : decode cX7_byMoults 39 = .ok (.if_icmp .ge 127, 3) := by decide +kernel
theorem dX7_byMoults_42 : decode cX7_byMoults 42 = .ok (.lconst 1, 1) := by decide +kernel
theorem dX7_byMoults_43 : decode cX7_byMoults 43 = .ok (.lstore 11, 2) := by decide +kernel
theorem dX7_byMoults_45 : decode cX7_byMoults 45 = .ok (.aload_n 0, 1) := by decide +kernel
theorem dX7_byMoults_46 : decode cX7_byMoults 46 = .ok (.iconst 0, 1) := by decide +kernel
theorem dX7_byMoults_47 : decode cX7_byMoults 47 = .ok (.sipush 240, 3) := by decide +kernel
theorem dX7_byMoults_50 : decode cX7_byMoults 50 = .ok (.invokevirtual 205, 3) := by decide +kernel
theorem dX7_byMoults_53 : decode cX7_byMoults 53 = .ok (.iconst 0, 1) := by decide +kernel
theorem dX7_byMoults_54 : decode cX7_byMoults 54 = .ok (.istore 13, 2) := by decide +kernel
theorem dX7_byMoults_56 : decode cX7_byMoults 56 = .ok (.iload 13, 2) := by decide +kernel
theorem dX7_byMoults_58 : decode cX7_byMoults 58 = .ok (.iload 4, 2) := by decide +kernel
theorem dX7_byMoults_60 : decode cX7_byMoults 60 = .ok (.if_icmp .ge 57, 3) := by decide +kernel
theorem dX7_byMoults_63 : decode cX7_byMoults 63 = .ok (.iload 10, 2) := by decide +kernel
theorem dX7_byMoults_65 : decode cX7_byMoults 65 = .ok (.iload 13, 2) := by decide +kernel
theorem dX7_byMoults_67 : decode cX7_byMoults 67 = .ok (.ishr, 1) := by decide +kernel
theorem dX7_byMoults_68 : decode cX7_byMoults 68 = .ok (.iconst 1, 1) := by decide +kernel
theorem dX7_byMoults_69 : decode cX7_byMoults 69 = .ok (.iand, 1) := by decide +kernel
theorem dX7_byMoults_70 : decode cX7_byMoults 70 = .ok (.iconst 1, 1) := by decide +kernel
theorem dX7_byMoults_71 : decode cX7_byMoults 71 = .ok (.if_icmp .ne 7, 3) := by decide +kernel
theorem dX7_byMoults_74 : decode cX7_byMoults 74 = .ok (.iconst 1, 1) := by decide +kernel
theorem dX7_byMoults_75 : decode cX7_byMoults 75 = .ok (.goto 4, 3) := by decide +kernel
theorem dX7_byMoults_78 : decode cX7_byMoults 78 = .ok (.iconst 0, 1) := by decide +kernel
theorem dX7_byMoults_79 : decode cX7_byMoults 79 = .ok (.istore 14, 2) := by decide +kernel
theorem dX7_byMoults_81 : decode cX7_byMoults 81 = .ok (.lload 11, 2) := by decide +kernel
theorem dX7_byMoults_83 : decode cX7_byMoults 83 = .ok (.iload 14, 2) := by decide +kernel
theorem dX7_byMoults_85 : decode cX7_byMoults 85 = .ok (.ifCond .eq 8, 3) := by decide +kernel
theorem dX7_byMoults_88 : decode cX7_byMoults 88 = .ok (.iload_n 1, 1) := by decide +kernel
theorem dX7_byMoults_89 : decode cX7_byMoults 89 = .ok (.i2l, 1) := by decide +kernel
theorem dX7_byMoults_90 : decode cX7_byMoults 90 = .ok (.goto 8, 3) := by decide +kernel
theorem dX7_byMoults_93 : decode cX7_byMoults 93 = .ok (.bipush 10, 2) := by decide +kernel
theorem dX7_byMoults_95 : decode cX7_byMoults 95 = .ok (.iload_n 1, 1) := by decide +kernel
theorem dX7_byMoults_96 : decode cX7_byMoults 96 = .ok (.isub, 1) := by decide +kernel
theorem dX7_byMoults_97 : decode cX7_byMoults 97 = .ok (.i2l, 1) := by decide +kernel
theorem dX7_byMoults_98 : decode cX7_byMoults 98 = .ok (.lmul, 1) := by decide +kernel
theorem dX7_byMoults_99 : decode cX7_byMoults 99 = .ok (.lstore 11, 2) := by decide +kernel
theorem dX7_byMoults_101 : decode cX7_byMoults 101 = .ok (.aload_n 0, 1) := by decide +kernel
theorem dX7_byMoults_102 : decode cX7_byMoults 102 = .ok (.sipush 240, 3) := by decide +kernel
theorem dX7_byMoults_105 : decode cX7_byMoults 105 = .ok (.iload 14, 2) := by decide +kernel
theorem dX7_byMoults_107 : decode cX7_byMoults 107 = .ok (.invokevirtual 201, 3) := by decide +kernel
theorem dX7_byMoults_110 : decode cX7_byMoults 110 = .ok (.pop, 1) := by decide +kernel
theorem dX7_byMoults_111 : decode cX7_byMoults 111 = .ok (.iinc 13 1, 3) := by decide +kernel
theorem dX7_byMoults_114 : decode cX7_byMoults 114 = .ok (.goto (-58), 3) := by decide +kernel
theorem dX7_byMoults_117 : decode cX7_byMoults 117 = .ok (.lload 6, 2) := by decide +kernel
theorem dX7_byMoults_119 : decode cX7_byMoults 119 = .ok (.lload 11, 2) := by decide +kernel
theorem dX7_byMoults_121 : decode cX7_byMoults 121 = .ok (.iload_n 3, 1) := by decide +kernel
theorem dX7_byMoults_122 : decode cX7_byMoults 122 = .ok (.bipush (-4), 2) := by decide +kernel
theorem dX7_byMoults_124 : decode cX7_byMoults 124 = .ok (.if_icmp .ne 14, 3) := by decide +kernel
theorem dX7_byMoults_127 : decode cX7_byMoults 127 = .ok (.aload_n 0, 1) := by decide +kernel
theorem dX7_byMoults_128 : decode cX7_byMoults 128 = .ok (.sipush 240, 3) := by decide +kernel
theorem dX7_byMoults_131 : decode cX7_byMoults 131 = .ok (.iload_n 2, 1) := by decide +kernel
theorem dX7_byMoults_132 : decode cX7_byMoults 132 = .ok (.invokevirtual 139, 3) := by decide +kernel
theorem dX7_byMoults_135 : decode cX7_byMoults 135 = .ok (.goto 20, 3) := by decide +kernel
theorem dX7_byMoults_138 : decode cX7_byMoults 138 = .ok (.aload_n 0, 1) := by decide +kernel
theorem dX7_byMoults_139 : decode cX7_byMoults 139 = .ok (.sipush 240, 3) := by decide +kernel
theorem dX7_byMoults_142 : decode cX7_byMoults 142 = .ok (.iload_n 2, 1) := by decide +kernel
theorem dX7_byMoults_143 : decode cX7_byMoults 143 = .ok (.invokevirtual 143, 3) := by decide +kernel
theorem dX7_byMoults_146 : decode cX7_byMoults 146 = .ok (.iload_n 3, 1) := by decide +kernel
theorem dX7_byMoults_147 : decode cX7_byMoults 147 = .ok (.if_icmp .ne 7, 3) := by decide +kernel
theorem dX7_byMoults_150 : decode cX7_byMoults 150 = .ok (.iconst 1, 1) := by decide +kernel
theorem dX7_byMoults_151 : decode cX7_byMoults 151 = .ok (.goto 4, 3) := by decide +kernel
theorem dX7_byMoults_154 : decode cX7_byMoults 154 = .ok (.iconst 0, 1) := by decide +kernel
theorem dX7_byMoults_155 : decode cX7_byMoults 155 = .ok (.i2l, 1) := by decide +kernel
theorem dX7_byMoults_156 : decode cX7_byMoults 156 = .ok (.lmul, 1) := by decide +kernel
theorem dX7_byMoults_157 : decode cX7_byMoults 157 = .ok (.ladd, 1) := by decide +kernel
theorem dX7_byMoults_158 : decode cX7_byMoults 158 = .ok (.lstore 6, 2) := by decide +kernel
theorem dX7_byMoults_160 : decode cX7_byMoults 160 = .ok (.iinc 10 1, 3) := by decide +kernel
theorem dX7_byMoults_163 : decode cX7_byMoults 163 = .ok (.goto (-130), 3) := by decide +kernel
theorem dX7_byMoults_166 : decode cX7_byMoults 166 = .ok (.lload 6, 2) := by decide +kernel
theorem dX7_byMoults_168 : decode cX7_byMoults 168 = .ok (.lload 8, 2) := by decide +kernel
theorem dX7_byMoults_170 : decode cX7_byMoults 170 = .ok (.iload 5, 2) := by decide +kernel
theorem dX7_byMoults_172 : decode cX7_byMoults 172 = .ok (.invokestatic 270, 3) := by decide +kernel
theorem dX7_byMoults_175 : decode cX7_byMoults 175 = .ok (.lreturn, 1) := by decide +kernel
set_option maxRecDepth 20000 in
theorem ggX7_luck_X7_in : GoodIn wsX7_luck wsX7_in := goodIn_r _ [7] (by decide +kernel) (by decide +kernel)
set_option maxRecDepth 20000 in
theorem gX7_luck_X7_in : GoodIn wsX7_luck (va_wsS RX7 46 yX7_in wsX7_in) := goodIn_app (goodIn_of _ (by decide +kernel)) ggX7_luck_X7_in
set_option maxRecDepth 20000 in
theorem ggX7_luck_X7_isGoose : GoodIn wsX7_luck wsX7_isGoose := goodIn_r _ [11, 12, 4, 5, 6, 7, 52, 53, 54, 55, 56, 57, 58, 59, 60, 61, 62, 63, 64, 65, 66, 67, 68, 69, 70, 71, 72, 73, 74, 75, 76, 77, 78, 79, 80, 81, 82, 83, 84, 85] (by decide +kernel) (by decide +kernel)
set_option maxRecDepth 20000 in
theorem gX7_luck_X7_isGoose : GoodIn wsX7_luck (wsV RX7 156 RX7 yX7_isGoose wsX7_isGoose) := goodIn_app (goodIn_of _ (by decide +kernel)) ggX7_luck_X7_isGoose
set_option maxRecDepth 20000 in
theorem ggX7_luck_X7_isOwner : GoodIn wsX7_luck wsX7_isOwner := goodIn_r _ [15, 16, 4, 5, 6, 7] (by decide +kernel) (by decide +kernel)
set_option maxRecDepth 20000 in
theorem gX7_luck_X7_isOwner : GoodIn wsX7_luck (va_wsS RX7 166 yX7_isOwner wsX7_isOwner) := goodIn_app (goodIn_of _ (by decide +kernel)) ggX7_luck_X7_isOwner
set_option maxRecDepth 20000 in
theorem ggX7_luck_X7_byMoults : GoodIn wsX7_luck wsX7_byMoults := goodIn_r _ [20, 1, 21, 22, 23, 6, 24, 25, 26, 27, 28, 29, 12, 30, 31, 32, 33, 34, 35, 36, 37, 38, 39, 40, 41, 42, 43, 44, 45, 46, 47, 48, 49, 50, 51, 52, 53, 54, 55, 56, 57, 58, 59, 60, 61, 62, 63, 64, 65, 66, 67, 68, 69, 70, 71, 72, 73, 74, 75, 76, 77, 78, 79, 80, 81, 82, 83, 84, 85] (by decide +kernel) (by decide +kernel)
set_option maxRecDepth 20000 in
theorem gX7_luck_X7_byMoults : GoodIn wsX7_luck (wsV RX7 276 RX7 yX7_byMoults wsX7_byMoults) := goodIn_app (goodIn_of _ (by decide +kernel)) ggX7_luck_X7_byMoults
theorem dX7_luck_0 : decode cX7_luck 0 = .ok (.iload_n 1, 1) := by decide +kernel
theorem dX7_luck_1 : decode cX7_luck 1 = .ok (.i2l, 1) := by decide +kernel
theorem dX7_luck_2 : decode cX7_luck 2 = .ok (.lconst 0, 1) := by decide +kernel
theorem dX7_luck_3 : decode cX7_luck 3 = .ok (.ldc2_w 255, 3) := by decide +kernel
theorem dX7_luck_6 : decode cX7_luck 6 = .ok (.invokestatic 46, 3) := by decide +kernel
theorem dX7_luck_9 : decode cX7_luck 9 = .ok (.ifCond .eq 56, 3) := by decide +kernel
theorem dX7_luck_12 : decode cX7_luck 12 = .ok (.aload_n 0, 1) := by decide +kernel
theorem dX7_luck_13 : decode cX7_luck 13 = .ok (.iload_n 2, 1) := by decide +kernel
theorem dX7_luck_14 : decode cX7_luck 14 = .ok (.invokevirtual 156, 3) := by decide +kernel
theorem dX7_luck_17 : decode cX7_luck 17 = .ok (.ifCond .eq 48, 3) := by decide +kernel
theorem dX7_luck_20 : decode cX7_luck 20 = .ok (.iload_n 3, 1) := by decide +kernel
theorem dX7_luck_21 : decode cX7_luck 21 = .ok (.invokestatic 166, 3) := by decide +kernel
theorem dX7_luck_24 : decode cX7_luck 24 = .ok (.ifCond .eq 41, 3) := by decide +kernel
theorem dX7_luck_27 : decode cX7_luck 27 = .ok (.iload 4, 2) := by decide +kernel
theorem dX7_luck_29 : decode cX7_luck 29 = .ok (.i2l, 1) := by decide +kernel
theorem dX7_luck_30 : decode cX7_luck 30 = .ok (.lconst 0, 1) := by decide +kernel
theorem dX7_luck_31 : decode cX7_luck 31 = .ok (.ldc2_w 274, 3) := by decide +kernel
theorem dX7_luck_34 : decode cX7_luck 34 = .ok (.invokestatic 46, 3) := by decide +kernel
theorem dX7_luck_37 : decode cX7_luck 37 = .ok (.ifCond .eq 28, 3) := by decide +kernel
theorem dX7_luck_40 : decode cX7_luck 40 = .ok (.iload 5, 2) := by decide +kernel
theorem dX7_luck_42 : decode cX7_luck 42 = .ok (.i2l, 1) := by decide +kernel
theorem dX7_luck_43 : decode cX7_luck 43 = .ok (.lconst 0, 1) := by decide +kernel
theorem dX7_luck_44 : decode cX7_luck 44 = .ok (.lconst 1, 1) := by decide +kernel
theorem dX7_luck_45 : decode cX7_luck 45 = .ok (.invokestatic 46, 3) := by decide +kernel
theorem dX7_luck_48 : decode cX7_luck 48 = .ok (.ifCond .eq 17, 3) := by decide +kernel
theorem dX7_luck_51 : decode cX7_luck 51 = .ok (.aload_n 0, 1) := by decide +kernel
theorem dX7_luck_52 : decode cX7_luck 52 = .ok (.iload_n 1, 1) := by decide +kernel
theorem dX7_luck_53 : decode cX7_luck 53 = .ok (.iload_n 2, 1) := by decide +kernel
theorem dX7_luck_54 : decode cX7_luck 54 = .ok (.iload_n 3, 1) := by decide +kernel
theorem dX7_luck_55 : decode cX7_luck 55 = .ok (.iload 4, 2) := by decide +kernel
theorem dX7_luck_57 : decode cX7_luck 57 = .ok (.iload 5, 2) := by decide +kernel
theorem dX7_luck_59 : decode cX7_luck 59 = .ok (.invokevirtual 276, 3) := by decide +kernel
theorem dX7_luck_62 : decode cX7_luck 62 = .ok (.goto 6, 3) := by decide +kernel
theorem dX7_luck_65 : decode cX7_luck 65 = .ok (.ldc2_w 268, 3) := by decide +kernel
theorem dX7_luck_68 : decode cX7_luck 68 = .ok (.lreturn, 1) := by decide +kernel
set_option maxRecDepth 20000 in
theorem ggX7_mean_X7_in : GoodIn wsX7_mean wsX7_in := goodIn_r _ [7] (by decide +kernel) (by decide +kernel)
set_option maxRecDepth 20000 in
theorem gX7_mean_X7_in : GoodIn wsX7_mean (va_wsS RX7 46 yX7_in wsX7_in) := goodIn_app (goodIn_of _ (by decide +kernel)) ggX7_mean_X7_in
set_option maxRecDepth 20000 in
theorem ggX7_mean_X7_isGoose : GoodIn wsX7_mean wsX7_isGoose := goodIn_r _ [11, 12, 4, 5, 6, 7, 48, 49, 50, 51, 52, 53, 54, 55, 56, 57, 58, 59, 60, 61, 62, 63, 64, 65, 66, 67, 68, 69, 70, 71, 72, 73, 74, 75, 76, 77, 78, 79, 80, 81] (by decide +kernel) (by decide +kernel)
set_option maxRecDepth 20000 in
theorem gX7_mean_X7_isGoose : GoodIn wsX7_mean (wsV RX7 156 RX7 yX7_isGoose wsX7_isGoose) := goodIn_app (goodIn_of _ (by decide +kernel)) ggX7_mean_X7_isGoose
set_option maxRecDepth 20000 in
theorem ggX7_mean_X7_byMoults : GoodIn wsX7_mean wsX7_byMoults := goodIn_r _ [16, 1, 17, 18, 19, 6, 20, 21, 22, 23, 24, 25, 12, 26, 27, 28, 29, 30, 31, 32, 33, 34, 35, 36, 37, 38, 39, 40, 41, 42, 43, 44, 45, 46, 47, 48, 49, 50, 51, 52, 53, 54, 55, 56, 57, 58, 59, 60, 61, 62, 63, 64, 65, 66, 67, 68, 69, 70, 71, 72, 73, 74, 75, 76, 77, 78, 79, 80, 81] (by decide +kernel) (by decide +kernel)
set_option maxRecDepth 20000 in
theorem gX7_mean_X7_byMoults : GoodIn wsX7_mean (wsV RX7 276 RX7 yX7_byMoults wsX7_byMoults) := goodIn_app (goodIn_of _ (by decide +kernel)) ggX7_mean_X7_byMoults
theorem dX7_mean_0 : decode cX7_mean 0 = .ok (.iload_n 1, 1) := by decide +kernel
theorem dX7_mean_1 : decode cX7_mean 1 = .ok (.i2l, 1) := by decide +kernel
theorem dX7_mean_2 : decode cX7_mean 2 = .ok (.lconst 0, 1) := by decide +kernel
theorem dX7_mean_3 : decode cX7_mean 3 = .ok (.ldc2_w 255, 3) := by decide +kernel
theorem dX7_mean_6 : decode cX7_mean 6 = .ok (.invokestatic 46, 3) := by decide +kernel
theorem dX7_mean_9 : decode cX7_mean 9 = .ok (.ifCond .eq 48, 3) := by decide +kernel
theorem dX7_mean_12 : decode cX7_mean 12 = .ok (.aload_n 0, 1) := by decide +kernel
theorem dX7_mean_13 : decode cX7_mean 13 = .ok (.iload_n 2, 1) := by decide +kernel
theorem dX7_mean_14 : decode cX7_mean 14 = .ok (.invokevirtual 156, 3) := by decide +kernel
theorem dX7_mean_17 : decode cX7_mean 17 = .ok (.ifCond .eq 40, 3) := by decide +kernel
theorem dX7_mean_20 : decode cX7_mean 20 = .ok (.iload_n 3, 1) := by decide +kernel
theorem dX7_mean_21 : decode cX7_mean 21 = .ok (.i2l, 1) := by decide +kernel
theorem dX7_mean_22 : decode cX7_mean 22 = .ok (.lconst 0, 1) := by decide +kernel
theorem dX7_mean_23 : decode cX7_mean 23 = .ok (.ldc2_w 274, 3) := by decide +kernel
theorem dX7_mean_26 : decode cX7_mean 26 = .ok (.invokestatic 46, 3) := by decide +kernel
theorem dX7_mean_29 : decode cX7_mean 29 = .ok (.ifCond .eq 28, 3) := by decide +kernel
theorem dX7_mean_32 : decode cX7_mean 32 = .ok (.iload 4, 2) := by decide +kernel
theorem dX7_mean_34 : decode cX7_mean 34 = .ok (.i2l, 1) := by decide +kernel
theorem dX7_mean_35 : decode cX7_mean 35 = .ok (.lconst 0, 1) := by decide +kernel
theorem dX7_mean_36 : decode cX7_mean 36 = .ok (.lconst 1, 1) := by decide +kernel
theorem dX7_mean_37 : decode cX7_mean 37 = .ok (.invokestatic 46, 3) := by decide +kernel
theorem dX7_mean_40 : decode cX7_mean 40 = .ok (.ifCond .eq 17, 3) := by decide +kernel
theorem dX7_mean_43 : decode cX7_mean 43 = .ok (.aload_n 0, 1) := by decide +kernel
theorem dX7_mean_44 : decode cX7_mean 44 = .ok (.iload_n 1, 1) := by decide +kernel
theorem dX7_mean_45 : decode cX7_mean 45 = .ok (.iload_n 2, 1) := by decide +kernel
theorem dX7_mean_46 : decode cX7_mean 46 = .ok (.bipush (-4), 2) := by decide +kernel
theorem dX7_mean_48 : decode cX7_mean 48 = .ok (.iload_n 3, 1) := by decide +kernel
theorem dX7_mean_49 : decode cX7_mean 49 = .ok (.iload 4, 2) := by decide +kernel
theorem dX7_mean_51 : decode cX7_mean 51 = .ok (.invokevirtual 276, 3) := by decide +kernel
theorem dX7_mean_54 : decode cX7_mean 54 = .ok (.goto 6, 3) := by decide +kernel
theorem dX7_mean_57 : decode cX7_mean 57 = .ok (.ldc2_w 268, 3) := by decide +kernel
theorem dX7_mean_60 : decode cX7_mean 60 = .ok (.lreturn, 1) := by decide +kernel
set_option maxRecDepth 20000 in
theorem ggX7_see_X7_isGoose : GoodIn wsX7_see wsX7_isGoose := goodIn_r _ [9, 10, 11, 12, 8, 13, 18, 19, 20, 21, 22, 23, 24, 25, 26, 27, 28, 29, 30, 31, 32, 33, 34, 35, 36, 37, 38, 39, 40, 41, 42, 43, 44, 45, 46, 47, 48, 49, 50, 51] (by decide +kernel) (by decide +kernel)
set_option maxRecDepth 20000 in
theorem gX7_see_X7_isGoose : GoodIn wsX7_see (wsV RX7 156 RX7 yX7_isGoose wsX7_isGoose) := goodIn_app (goodIn_of _ (by decide +kernel)) ggX7_see_X7_isGoose
set_option maxRecDepth 20000 in
theorem ggX7_see_X7_isOwner : GoodIn wsX7_see wsX7_isOwner := goodIn_r _ [16, 17, 11, 12, 8, 13] (by decide +kernel) (by decide +kernel)
set_option maxRecDepth 20000 in
theorem gX7_see_X7_isOwner : GoodIn wsX7_see (va_wsS RX7 166 yX7_isOwner wsX7_isOwner) := goodIn_app (goodIn_of _ (by decide +kernel)) ggX7_see_X7_isOwner
set_option maxRecDepth 20000 in
theorem ggX7_see_X7_in : GoodIn wsX7_see wsX7_in := goodIn_r _ [13] (by decide +kernel) (by decide +kernel)
set_option maxRecDepth 20000 in
theorem gX7_see_X7_in : GoodIn wsX7_see (va_wsS RX7 46 yX7_in wsX7_in) := goodIn_app (goodIn_of _ (by decide +kernel)) ggX7_see_X7_in
theorem dX7_see_0 : decode cX7_see 0 = .ok (.aload_n 0, 1) := by decide +kernel
theorem dX7_see_1 : decode cX7_see 1 = .ok (.iload_n 1, 1) := by decide +kernel
theorem dX7_see_2 : decode cX7_see 2 = .ok (.invokevirtual 156, 3) := by decide +kernel
theorem dX7_see_5 : decode cX7_see 5 = .ok (.ifCond .eq 35, 3) := by decide +kernel
theorem dX7_see_8 : decode cX7_see 8 = .ok (.iload_n 2, 1) := by decide +kernel
theorem dX7_see_9 : decode cX7_see 9 = .ok (.invokestatic 166, 3) := by decide +kernel
theorem dX7_see_12 : decode cX7_see 12 = .ok (.ifCond .eq 28, 3) := by decide +kernel
theorem dX7_see_15 : decode cX7_see 15 = .ok (.iload_n 3, 1) := by decide +kernel
theorem dX7_see_16 : decode cX7_see 16 = .ok (.i2l, 1) := by decide +kernel
theorem dX7_see_17 : decode cX7_see 17 = .ok (.lconst 0, 1) := by decide +kernel
theorem dX7_see_18 : decode cX7_see 18 = .ok (.ldc2_w 280, 3) := by decide +kernel
theorem dX7_see_21 : decode cX7_see 21 = .ok (.invokestatic 46, 3) := by decide +kernel
theorem dX7_see_24 : decode cX7_see 24 = .ok (.ifCond .eq 16, 3) := by decide +kernel
theorem dX7_see_27 : decode cX7_see 27 = .ok (.iload 4, 2) := by decide +kernel
theorem dX7_see_29 : decode cX7_see 29 = .ok (.i2l, 1) := by decide +kernel
theorem dX7_see_30 : decode cX7_see 30 = .ok (.lconst 0, 1) := by decide +kernel
theorem dX7_see_31 : decode cX7_see 31 = .ok (.ldc2_w 182, 3) := by decide +kernel
theorem dX7_see_34 : decode cX7_see 34 = .ok (.invokestatic 46, 3) := by decide +kernel
theorem dX7_see_37 : decode cX7_see 37 = .ok (.ifCond .ne 5, 3) := by decide +kernel
theorem dX7_see_40 : decode cX7_see 40 = .ok (.iconst (-1), 1) := by decide +kernel
theorem dX7_see_41 : decode cX7_see 41 = .ok (.ireturn, 1) := by decide +kernel
theorem dX7_see_42 : decode cX7_see 42 = .ok (.aload_n 0, 1) := by decide +kernel
theorem dX7_see_43 : decode cX7_see 43 = .ok (.getfield 131, 3) := by decide +kernel
theorem dX7_see_46 : decode cX7_see 46 = .ok (.bipush 6, 2) := by decide +kernel
theorem dX7_see_48 : decode cX7_see 48 = .ok (.if_icmp .ne 6, 3) := by decide +kernel
theorem dX7_see_51 : decode cX7_see 51 = .ok (.bipush (-3), 2) := by decide +kernel
theorem dX7_see_53 : decode cX7_see 53 = .ok (.ireturn, 1) := by decide +kernel
theorem dX7_see_54 : decode cX7_see 54 = .ok (.aload_n 0, 1) := by decide +kernel
theorem dX7_see_55 : decode cX7_see 55 = .ok (.getfield 25, 3) := by decide +kernel
theorem dX7_see_58 : decode cX7_see 58 = .ok (.iconst 4, 1) := by decide +kernel
theorem dX7_see_59 : decode cX7_see 59 = .ok (.aload_n 0, 1) := by decide +kernel
theorem dX7_see_60 : decode cX7_see 60 = .ok (.getfield 131, 3) := by decide +kernel
theorem dX7_see_63 : decode cX7_see 63 = .ok (.imul, 1) := by decide +kernel
theorem dX7_see_64 : decode cX7_see 64 = .ok (.iload_n 1, 1) := by decide +kernel
theorem dX7_see_65 : decode cX7_see 65 = .ok (.iastore, 1) := by decide +kernel
theorem dX7_see_66 : decode cX7_see 66 = .ok (.aload_n 0, 1) := by decide +kernel
theorem dX7_see_67 : decode cX7_see 67 = .ok (.getfield 25, 3) := by decide +kernel
theorem dX7_see_70 : decode cX7_see 70 = .ok (.iconst 4, 1) := by decide +kernel
theorem dX7_see_71 : decode cX7_see 71 = .ok (.aload_n 0, 1) := by decide +kernel
theorem dX7_see_72 : decode cX7_see 72 = .ok (.getfield 131, 3) := by decide +kernel
theorem dX7_see_75 : decode cX7_see 75 = .ok (.imul, 1) := by decide +kernel
theorem dX7_see_76 : decode cX7_see 76 = .ok (.iconst 1, 1) := by decide +kernel
theorem dX7_see_77 : decode cX7_see 77 = .ok (.iadd, 1) := by decide +kernel
theorem dX7_see_78 : decode cX7_see 78 = .ok (.iload_n 2, 1) := by decide +kernel
theorem dX7_see_79 : decode cX7_see 79 = .ok (.iastore, 1) := by decide +kernel
theorem dX7_see_80 : decode cX7_see 80 = .ok (.aload_n 0, 1) := by decide +kernel
theorem dX7_see_81 : decode cX7_see 81 = .ok (.getfield 25, 3) := by decide +kernel
theorem dX7_see_84 : decode cX7_see 84 = .ok (.iconst 4, 1) := by decide +kernel
theorem dX7_see_85 : decode cX7_see 85 = .ok (.aload_n 0, 1) := by decide +kernel
theorem dX7_see_86 : decode cX7_see 86 = .ok (.getfield 131, 3) := by decide +kernel
theorem dX7_see_89 : decode cX7_see 89 = .ok (.imul, 1) := by decide +kernel
theorem dX7_see_90 : decode cX7_see 90 = .ok (.iconst 2, 1) := by decide +kernel
theorem dX7_see_91 : decode cX7_see 91 = .ok (.iadd, 1) := by decide +kernel
theorem dX7_see_92 : decode cX7_see 92 = .ok (.iload_n 3, 1) := by decide +kernel
theorem dX7_see_93 : decode cX7_see 93 = .ok (.iastore, 1) := by decide +kernel
theorem dX7_see_94 : decode cX7_see 94 = .ok (.aload_n 0, 1) := by decide +kernel
theorem dX7_see_95 : decode cX7_see 95 = .ok (.getfield 25, 3) := by decide +kernel
theorem dX7_see_98 : decode cX7_see 98 = .ok (.iconst 4, 1) := by decide +kernel
theorem dX7_see_99 : decode cX7_see 99 = .ok (.aload_n 0, 1) := by decide +kernel
theorem dX7_see_100 : decode cX7_see 100 = .ok (.getfield 131, 3) := by decide +kernel
theorem dX7_see_103 : decode cX7_see 103 = .ok (.imul, 1) := by decide +kernel
theorem dX7_see_104 : decode cX7_see 104 = .ok (.iconst 3, 1) := by decide +kernel
theorem dX7_see_105 : decode cX7_see 105 = .ok (.iadd, 1) := by decide +kernel
theorem dX7_see_106 : decode cX7_see 106 = .ok (.iload 4, 2) := by decide +kernel
theorem dX7_see_108 : decode cX7_see 108 = .ok (.iastore, 1) := by decide +kernel
theorem dX7_see_109 : decode cX7_see 109 = .ok (.aload_n 0, 1) := by decide +kernel
theorem dX7_see_110 : decode cX7_see 110 = .ok (.dup, 1) := by decide +kernel
theorem dX7_see_111 : decode cX7_see 111 = .ok (.getfield 131, 3) := by decide +kernel
theorem dX7_see_114 : decode cX7_see 114 = .ok (.iconst 1, 1) := by decide +kernel
theorem dX7_see_115 : decode cX7_see 115 = .ok (.iadd, 1) := by decide +kernel
theorem dX7_see_116 : decode cX7_see 116 = .ok (.putfield 131, 3) := by decide +kernel
theorem dX7_see_119 : decode cX7_see 119 = .ok (.aload_n 0, 1) := by decide +kernel
theorem dX7_see_120 : decode cX7_see 120 = .ok (.getfield 131, 3) := by decide +kernel
theorem dX7_see_123 : decode cX7_see 123 = .ok (.ireturn, 1) := by decide +kernel
set_option maxRecDepth 20000 in
theorem ggX7_forget_X7_in : GoodIn wsX7_forget wsX7_in := goodIn_r _ [5] (by decide +kernel) (by decide +kernel)
set_option maxRecDepth 20000 in
theorem gX7_forget_X7_in : GoodIn wsX7_forget (va_wsS RX7 46 yX7_in wsX7_in) := goodIn_app (goodIn_of _ (by decide +kernel)) ggX7_forget_X7_in
theorem dX7_forget_0 : decode cX7_forget 0 = .ok (.iload_n 1, 1) := by decide +kernel
theorem dX7_forget_1 : decode cX7_forget 1 = .ok (.i2l, 1) := by decide +kernel
theorem dX7_forget_2 : decode cX7_forget 2 = .ok (.lconst 0, 1) := by decide +kernel
theorem dX7_forget_3 : decode cX7_forget 3 = .ok (.aload_n 0, 1) := by decide +kernel
theorem dX7_forget_4 : decode cX7_forget 4 = .ok (.getfield 131, 3) := by decide +kernel
theorem dX7_forget_7 : decode cX7_forget 7 = .ok (.i2l, 1) := by decide +kernel
theorem dX7_forget_8 : decode cX7_forget 8 = .ok (.invokestatic 46, 3) := by decide +kernel
theorem dX7_forget_11 : decode cX7_forget 11 = .ok (.ifCond .ne 5, 3) := by decide +kernel
theorem dX7_forget_14 : decode cX7_forget 14 = .ok (.iconst (-1), 1) := by decide +kernel
theorem dX7_forget_15 : decode cX7_forget 15 = .ok (.ireturn, 1) := by decide +kernel
theorem dX7_forget_16 : decode cX7_forget 16 = .ok (.aload_n 0, 1) := by decide +kernel
theorem dX7_forget_17 : decode cX7_forget 17 = .ok (.getfield 131, 3) := by decide +kernel
theorem dX7_forget_20 : decode cX7_forget 20 = .ok (.istore_n 2, 1) := by decide +kernel
theorem dX7_forget_21 : decode cX7_forget 21 = .ok (.aload_n 0, 1) := by decide +kernel
theorem dX7_forget_22 : decode cX7_forget 22 = .ok (.iload_n 1, 1) := by decide +kernel
theorem dX7_forget_23 : decode cX7_forget 23 = .ok (.putfield 131, 3) := by decide +kernel
theorem dX7_forget_26 : decode cX7_forget 26 = .ok (.iload_n 2, 1) := by decide +kernel
theorem dX7_forget_27 : decode cX7_forget 27 = .ok (.ireturn, 1) := by decide +kernel
set_option maxRecDepth 20000 in
theorem ggX7_isAsSeen_X7_copies : GoodIn wsX7_isAsSeen wsX7_copies := goodIn_r _ [8, 9, 34, 35, 36, 37, 38, 39, 40, 41, 42, 43, 44, 45, 46, 47, 48, 49, 50, 51, 52, 53, 54, 55, 56, 57, 58, 59, 60, 61, 62, 63, 64, 65, 66, 67] (by decide +kernel) (by decide +kernel)
set_option maxRecDepth 20000 in
theorem gX7_isAsSeen_X7_copies : GoodIn wsX7_isAsSeen (wsV RX7 205 RX7 yX7_copies wsX7_copies) := goodIn_app (goodIn_of _ (by decide +kernel)) ggX7_isAsSeen_X7_copies
set_option maxRecDepth 20000 in
theorem ggX7_isAsSeen_X7_shareOn : GoodIn wsX7_isAsSeen wsX7_shareOn := goodIn_r _ [13, 9, 34, 35, 36, 37, 38, 39, 40, 41, 42, 43, 44, 45, 46, 47, 48, 49, 50, 51, 52, 53, 54, 55, 56, 57, 58, 59, 60, 61, 62, 63, 64, 65, 66, 67] (by decide +kernel) (by decide +kernel)
set_option maxRecDepth 20000 in
theorem gX7_isAsSeen_X7_shareOn : GoodIn wsX7_isAsSeen (wsV RX7 136 RX7 yX7_shareOn wsX7_shareOn) := goodIn_app (goodIn_of _ (by decide +kernel)) ggX7_isAsSeen_X7_shareOn
set_option maxRecDepth 20000 in
theorem ggX7_isAsSeen_X7_weekOn : GoodIn wsX7_isAsSeen wsX7_weekOn := goodIn_r _ [17, 18, 9, 19, 20, 21, 7, 22, 10, 11, 12, 13, 23, 24, 25, 26, 27, 28, 29, 30, 31, 32, 33, 34, 35, 36, 37, 38, 39, 40, 41, 42, 43, 44, 45, 46, 47, 48, 49, 50, 51, 52, 53, 54, 55, 56, 57, 58, 59, 60, 61, 62, 63, 64, 65, 66, 67] (by decide +kernel) (by decide +kernel)
set_option maxRecDepth 20000 in
theorem gX7_isAsSeen_X7_weekOn : GoodIn wsX7_isAsSeen (wsV RX7 201 RX7 yX7_weekOn wsX7_weekOn) := goodIn_app (goodIn_of _ (by decide +kernel)) ggX7_isAsSeen_X7_weekOn
theorem dX7_isAsSeen_0 : decode cX7_isAsSeen 0 = .ok (.aload_n 0, 1) := by decide +kernel
theorem dX7_isAsSeen_1 : decode cX7_isAsSeen 1 = .ok (.iconst 0, 1) := by decide +kernel
theorem dX7_isAsSeen_2 : decode cX7_isAsSeen 2 = .ok (.sipush 240, 3) := by decide +kernel
theorem dX7_isAsSeen_5 : decode cX7_isAsSeen 5 = .ok (.invokevirtual 205, 3) := by decide +kernel
theorem dX7_isAsSeen_8 : decode cX7_isAsSeen 8 = .ok (.iconst 1, 1) := by decide +kernel
theorem dX7_isAsSeen_9 : decode cX7_isAsSeen 9 = .ok (.istore_n 3, 1) := by decide +kernel
theorem dX7_isAsSeen_10 : decode cX7_isAsSeen 10 = .ok (.iconst 0, 1) := by decide +kernel
theorem dX7_isAsSeen_11 : decode cX7_isAsSeen 11 = .ok (.istore 4, 2) := by decide +kernel
theorem dX7_isAsSeen_13 : decode cX7_isAsSeen 13 = .ok (.iload 4, 2) := by decide +kernel
theorem dX7_isAsSeen_15 : decode cX7_isAsSeen 15 = .ok (.bipush 20, 2) := by decide +kernel
theorem dX7_isAsSeen_17 : decode cX7_isAsSeen 17 = .ok (.if_icmp .gt 145, 3) := by decide +kernel
theorem dX7_isAsSeen_20 : decode cX7_isAsSeen 20 = .ok (.iconst 0, 1) := by decide +kernel
theorem dX7_isAsSeen_21 : decode cX7_isAsSeen 21 = .ok (.istore 5, 2) := by decide +kernel
theorem dX7_isAsSeen_23 : decode cX7_isAsSeen 23 = .ok (.iload 5, 2) := by decide +kernel
theorem dX7_isAsSeen_25 : decode cX7_isAsSeen 25 = .ok (.iconst 5, 1) := by decide +kernel
theorem dX7_isAsSeen_26 : decode cX7_isAsSeen 26 = .ok (.if_icmp .ge 36, 3) := by decide +kernel
theorem dX7_isAsSeen_29 : decode cX7_isAsSeen 29 = .ok (.aload_n 0, 1) := by decide +kernel
theorem dX7_isAsSeen_30 : decode cX7_isAsSeen 30 = .ok (.getfield 28, 3) := by decide +kernel
theorem dX7_isAsSeen_33 : decode cX7_isAsSeen 33 = .ok (.bipush 105, 2) := by decide +kernel
theorem dX7_isAsSeen_35 : decode cX7_isAsSeen 35 = .ok (.iload_n 2, 1) := by decide +kernel
theorem dX7_isAsSeen_36 : decode cX7_isAsSeen 36 = .ok (.imul, 1) := by decide +kernel
theorem dX7_isAsSeen_37 : decode cX7_isAsSeen 37 = .ok (.iconst 5, 1) := by decide +kernel
theorem dX7_isAsSeen_38 : decode cX7_isAsSeen 38 = .ok (.iload 4, 2) := by decide +kernel
theorem dX7_isAsSeen_40 : decode cX7_isAsSeen 40 = .ok (.imul, 1) := by decide +kernel
theorem dX7_isAsSeen_41 : decode cX7_isAsSeen 41 = .ok (.iadd, 1) := by decide +kernel
theorem dX7_isAsSeen_42 : decode cX7_isAsSeen 42 = .ok (.iload 5, 2) := by decide +kernel
theorem dX7_isAsSeen_44 : decode cX7_isAsSeen 44 = .ok (.iadd, 1) := by decide +kernel
theorem dX7_isAsSeen_45 : decode cX7_isAsSeen 45 = .ok (.aload_n 0, 1) := by decide +kernel
theorem dX7_isAsSeen_46 : decode cX7_isAsSeen 46 = .ok (.sipush 240, 3) := by decide +kernel
theorem dX7_isAsSeen_49 : decode cX7_isAsSeen 49 = .ok (.iload_n 1, 1) := by decide +kernel
theorem dX7_isAsSeen_50 : decode cX7_isAsSeen 50 = .ok (.iload 5, 2) := by decide +kernel
theorem dX7_isAsSeen_52 : decode cX7_isAsSeen 52 = .ok (.invokevirtual 136, 3) := by decide +kernel
theorem dX7_isAsSeen_55 : decode cX7_isAsSeen 55 = .ok (.iastore, 1) := by decide +kernel
theorem dX7_isAsSeen_56 : decode cX7_isAsSeen 56 = .ok (.iinc 5 1, 3) := by decide +kernel
theorem dX7_isAsSeen_59 : decode cX7_isAsSeen 59 = .ok (.goto (-36), 3) := by decide +kernel
theorem dX7_isAsSeen_62 : decode cX7_isAsSeen 62 = .ok (.iconst 0, 1) := by decide +kernel
theorem dX7_isAsSeen_63 : decode cX7_isAsSeen 63 = .ok (.istore 5, 2) := by decide +kernel
theorem dX7_isAsSeen_65 : decode cX7_isAsSeen 65 = .ok (.iload 5, 2) := by decide +kernel
theorem dX7_isAsSeen_67 : decode cX7_isAsSeen 67 = .ok (.aload_n 0, 1) := by decide +kernel
theorem dX7_isAsSeen_68 : decode cX7_isAsSeen 68 = .ok (.getfield 131, 3) := by decide +kernel
theorem dX7_isAsSeen_71 : decode cX7_isAsSeen 71 = .ok (.if_icmp .ge 76, 3) := by decide +kernel
theorem dX7_isAsSeen_74 : decode cX7_isAsSeen 74 = .ok (.iload_n 3, 1) := by decide +kernel
theorem dX7_isAsSeen_75 : decode cX7_isAsSeen 75 = .ok (.ifCond .eq 64, 3) := by decide +kernel
theorem dX7_isAsSeen_78 : decode cX7_isAsSeen 78 = .ok (.aload_n 0, 1) := by decide +kernel
theorem dX7_isAsSeen_79 : decode cX7_isAsSeen 79 = .ok (.getfield 25, 3) := by decide +kernel
theorem dX7_isAsSeen_82 : decode cX7_isAsSeen 82 = .ok (.iconst 4, 1) := by decide +kernel
theorem dX7_isAsSeen_83 : decode cX7_isAsSeen 83 = .ok (.iload 5, 2) := by decide +kernel
theorem dX7_isAsSeen_85 : decode cX7_isAsSeen 85 = .ok (.imul, 1) := by decide +kernel
theorem dX7_isAsSeen_86 : decode cX7_isAsSeen 86 = .ok (.iconst 2, 1) := by decide +kernel
theorem dX7_isAsSeen_87 : decode cX7_isAsSeen 87 = .ok (.iadd, 1) := by decide +kernel
theorem dX7_isAsSeen_88 : decode cX7_isAsSeen 88 = .ok (.iaload, 1) := by decide +kernel
theorem dX7_isAsSeen_89 : decode cX7_isAsSeen 89 = .ok (.iload 4, 2) := by decide +kernel
theorem dX7_isAsSeen_91 : decode cX7_isAsSeen 91 = .ok (.if_icmp .ne 44, 3) := by decide +kernel
theorem dX7_isAsSeen_94 : decode cX7_isAsSeen 94 = .ok (.aload_n 0, 1) := by decide +kernel
theorem dX7_isAsSeen_95 : decode cX7_isAsSeen 95 = .ok (.sipush 240, 3) := by decide +kernel
theorem dX7_isAsSeen_98 : decode cX7_isAsSeen 98 = .ok (.aload_n 0, 1) := by decide +kernel
theorem dX7_isAsSeen_99 : decode cX7_isAsSeen 99 = .ok (.getfield 25, 3) := by decide +kernel
theorem dX7_isAsSeen_102 : decode cX7_isAsSeen 102 = .ok (.iconst 4, 1) := by decide +kernel
theorem dX7_isAsSeen_103 : decode cX7_isAsSeen 103 = .ok (.iload 5, 2) := by decide +kernel
theorem dX7_isAsSeen_105 : decode cX7_isAsSeen 105 = .ok (.imul, 1) := by decide +kernel
theorem dX7_isAsSeen_106 : decode cX7_isAsSeen 106 = .ok (.iaload, 1) := by decide +kernel
theorem dX7_isAsSeen_107 : decode cX7_isAsSeen 107 = .ok (.aload_n 0, 1) := by decide +kernel
theorem dX7_isAsSeen_108 : decode cX7_isAsSeen 108 = .ok (.getfield 25, 3) := by decide +kernel
theorem dX7_isAsSeen_111 : decode cX7_isAsSeen 111 = .ok (.iconst 4, 1) := by decide +kernel
theorem dX7_isAsSeen_112 : decode cX7_isAsSeen 112 = .ok (.iload 5, 2) := by decide +kernel
theorem dX7_isAsSeen_114 : decode cX7_isAsSeen 114 = .ok (.imul, 1) := by decide +kernel
theorem dX7_isAsSeen_115 : decode cX7_isAsSeen 115 = .ok (.iconst 1, 1) := by decide +kernel
theorem dX7_isAsSeen_116 : decode cX7_isAsSeen 116 = .ok (.iadd, 1) := by decide +kernel
theorem dX7_isAsSeen_117 : decode cX7_isAsSeen 117 = .ok (.iaload, 1) := by decide +kernel
theorem dX7_isAsSeen_118 : decode cX7_isAsSeen 118 = .ok (.invokevirtual 136, 3) := by decide +kernel
theorem dX7_isAsSeen_121 : decode cX7_isAsSeen 121 = .ok (.aload_n 0, 1) := by decide +kernel
theorem dX7_isAsSeen_122 : decode cX7_isAsSeen 122 = .ok (.getfield 25, 3) := by decide +kernel
theorem dX7_isAsSeen_125 : decode cX7_isAsSeen 125 = .ok (.iconst 4, 1) := by decide +kernel
theorem dX7_isAsSeen_126 : decode cX7_isAsSeen 126 = .ok (.iload 5, 2) := by decide +kernel
theorem dX7_isAsSeen_128 : decode cX7_isAsSeen 128 = .ok (.imul, 1) := by decide +kernel
theorem dX7_isAsSeen_129 : decode cX7_isAsSeen 129 = .ok (.iconst 3, 1) := by decide +kernel
theorem dX7_isAsSeen_130 : decode cX7_isAsSeen 130 = .ok (.iadd, 1) := by decide +kernel
theorem dX7_isAsSeen_131 : decode cX7_isAsSeen 131 = .ok (.iaload, 1) := by decide +kernel
theorem dX7_isAsSeen_132 : decode cX7_isAsSeen 132 = .ok (.if_icmp .ne 7, 3) := by decide +kernel
theorem dX7_isAsSeen_135 : decode cX7_isAsSeen 135 = .ok (.iconst 1, 1) := by decide +kernel
theorem dX7_isAsSeen_136 : decode cX7_isAsSeen 136 = .ok (.goto 4, 3) := by decide +kernel
theorem dX7_isAsSeen_139 : decode cX7_isAsSeen 139 = .ok (.iconst 0, 1) := by decide +kernel
theorem dX7_isAsSeen_140 : decode cX7_isAsSeen 140 = .ok (.istore_n 3, 1) := by decide +kernel
theorem dX7_isAsSeen_141 : decode cX7_isAsSeen 141 = .ok (.iinc 5 1, 3) := by decide +kernel
theorem dX7_isAsSeen_144 : decode cX7_isAsSeen 144 = .ok (.goto (-79), 3) := by decide +kernel
theorem dX7_isAsSeen_147 : decode cX7_isAsSeen 147 = .ok (.aload_n 0, 1) := by decide +kernel
theorem dX7_isAsSeen_148 : decode cX7_isAsSeen 148 = .ok (.sipush 240, 3) := by decide +kernel
theorem dX7_isAsSeen_151 : decode cX7_isAsSeen 151 = .ok (.iconst 1, 1) := by decide +kernel
theorem dX7_isAsSeen_152 : decode cX7_isAsSeen 152 = .ok (.invokevirtual 201, 3) := by decide +kernel
theorem dX7_isAsSeen_155 : decode cX7_isAsSeen 155 = .ok (.pop, 1) := by decide +kernel
theorem dX7_isAsSeen_156 : decode cX7_isAsSeen 156 = .ok (.iinc 4 1, 3) := by decide +kernel
theorem dX7_isAsSeen_159 : decode cX7_isAsSeen 159 = .ok (.goto (-146), 3) := by decide +kernel
theorem dX7_isAsSeen_162 : decode cX7_isAsSeen 162 = .ok (.iload_n 3, 1) := by decide +kernel
theorem dX7_isAsSeen_163 : decode cX7_isAsSeen 163 = .ok (.ireturn, 1) := by decide +kernel
set_option maxRecDepth 20000 in
theorem ggX7_kindsOf_X7_isAsSeen : GoodIn wsX7_kindsOf wsX7_isAsSeen := goodIn_r _ [6, 7, 8, 9, 10, 11, 12, 5, 13, 1, 14, 15, 16, 17, 18, 19, 20, 21, 22, 23, 24, 25, 26, 27, 28, 29, 30, 31, 32, 33, 34, 35, 36, 37, 38, 39, 40, 41, 42, 43, 44, 45, 46, 47, 48, 49, 50, 51, 52, 53, 54, 55, 56, 57, 58, 59, 60, 61, 62, 63, 64, 65, 66, 67, 68, 69, 70, 71] (by decide +kernel) (by decide +kernel)
set_option maxRecDepth 20000 in
theorem gX7_kindsOf_X7_isAsSeen : GoodIn wsX7_kindsOf (wsV RX7 282 RX7 yX7_isAsSeen wsX7_isAsSeen) := goodIn_app (goodIn_of _ (by decide +kernel)) ggX7_kindsOf_X7_isAsSeen
theorem dX7_kindsOf_0 : decode cX7_kindsOf 0 = .ok (.aload_n 0, 1) := by decide +kernel
theorem dX7_kindsOf_1 : decode cX7_kindsOf 1 = .ok (.getfield 7, 3) := by decide +kernel
theorem dX7_kindsOf_4 : decode cX7_kindsOf 4 = .ok (.iload_n 1, 1) := by decide +kernel
theorem dX7_kindsOf_5 : decode cX7_kindsOf 5 = .ok (.iaload, 1) := by decide +kernel
theorem dX7_kindsOf_6 : decode cX7_kindsOf 6 = .ok (.istore_n 2, 1) := by decide +kernel
theorem dX7_kindsOf_7 : decode cX7_kindsOf 7 = .ok (.iconst 0, 1) := by decide +kernel
theorem dX7_kindsOf_8 : decode cX7_kindsOf 8 = .ok (.istore_n 3, 1) := by decide +kernel
theorem dX7_kindsOf_9 : decode cX7_kindsOf 9 = .ok (.iconst 0, 1) := by decide +kernel
theorem dX7_kindsOf_10 : decode cX7_kindsOf 10 = .ok (.istore 4, 2) := by decide +kernel
theorem dX7_kindsOf_12 : decode cX7_kindsOf 12 = .ok (.iload 4, 2) := by decide +kernel
theorem dX7_kindsOf_14 : decode cX7_kindsOf 14 = .ok (.iconst 4, 1) := by decide +kernel
theorem dX7_kindsOf_15 : decode cX7_kindsOf 15 = .ok (.if_icmp .ge 38, 3) := by decide +kernel
theorem dX7_kindsOf_18 : decode cX7_kindsOf 18 = .ok (.aload_n 0, 1) := by decide +kernel
theorem dX7_kindsOf_19 : decode cX7_kindsOf 19 = .ok (.getfield 7, 3) := by decide +kernel
theorem dX7_kindsOf_22 : decode cX7_kindsOf 22 = .ok (.iload_n 1, 1) := by decide +kernel
theorem dX7_kindsOf_23 : decode cX7_kindsOf 23 = .ok (.iload 4, 2) := by decide +kernel
theorem dX7_kindsOf_25 : decode cX7_kindsOf 25 = .ok (.iastore, 1) := by decide +kernel
theorem dX7_kindsOf_26 : decode cX7_kindsOf 26 = .ok (.iload_n 3, 1) := by decide +kernel
theorem dX7_kindsOf_27 : decode cX7_kindsOf 27 = .ok (.aload_n 0, 1) := by decide +kernel
theorem dX7_kindsOf_28 : decode cX7_kindsOf 28 = .ok (.iload_n 1, 1) := by decide +kernel
theorem dX7_kindsOf_29 : decode cX7_kindsOf 29 = .ok (.iload 4, 2) := by decide +kernel
theorem dX7_kindsOf_31 : decode cX7_kindsOf 31 = .ok (.invokevirtual 282, 3) := by decide +kernel
theorem dX7_kindsOf_34 : decode cX7_kindsOf 34 = .ok (.ifCond .eq 10, 3) := by decide +kernel
theorem dX7_kindsOf_37 : decode cX7_kindsOf 37 = .ok (.iconst 1, 1) := by decide +kernel
theorem dX7_kindsOf_38 : decode cX7_kindsOf 38 = .ok (.iload 4, 2) := by decide +kernel
theorem dX7_kindsOf_40 : decode cX7_kindsOf 40 = .ok (.ishl, 1) := by decide +kernel
theorem dX7_kindsOf_41 : decode cX7_kindsOf 41 = .ok (.goto 4, 3) := by decide +kernel
theorem dX7_kindsOf_44 : decode cX7_kindsOf 44 = .ok (.iconst 0, 1) := by decide +kernel
theorem dX7_kindsOf_45 : decode cX7_kindsOf 45 = .ok (.ior, 1) := by decide +kernel
theorem dX7_kindsOf_46 : decode cX7_kindsOf 46 = .ok (.istore_n 3, 1) := by decide +kernel
theorem dX7_kindsOf_47 : decode cX7_kindsOf 47 = .ok (.iinc 4 1, 3) := by decide +kernel
theorem dX7_kindsOf_50 : decode cX7_kindsOf 50 = .ok (.goto (-38), 3) := by decide +kernel
theorem dX7_kindsOf_53 : decode cX7_kindsOf 53 = .ok (.aload_n 0, 1) := by decide +kernel
theorem dX7_kindsOf_54 : decode cX7_kindsOf 54 = .ok (.getfield 7, 3) := by decide +kernel
theorem dX7_kindsOf_57 : decode cX7_kindsOf 57 = .ok (.iload_n 1, 1) := by decide +kernel
theorem dX7_kindsOf_58 : decode cX7_kindsOf 58 = .ok (.iload_n 2, 1) := by decide +kernel
theorem dX7_kindsOf_59 : decode cX7_kindsOf 59 = .ok (.iastore, 1) := by decide +kernel
theorem dX7_kindsOf_60 : decode cX7_kindsOf 60 = .ok (.iload_n 3, 1) := by decide +kernel
theorem dX7_kindsOf_61 : decode cX7_kindsOf 61 = .ok (.ireturn, 1) := by decide +kernel
set_option maxRecDepth 20000 in
theorem ggX7_kinds_X7_isGoose : GoodIn wsX7_kinds wsX7_isGoose := goodIn_r _ [5, 6, 7, 8, 4, 9, 49, 50, 51, 52, 53, 54, 55, 56, 57, 58, 59, 60, 61, 62, 63, 64, 65, 66, 67, 68, 69, 70, 71, 72, 73, 74, 75, 76, 77, 78, 79, 80, 81, 82] (by decide +kernel) (by decide +kernel)
set_option maxRecDepth 20000 in
theorem gX7_kinds_X7_isGoose : GoodIn wsX7_kinds (wsV RX7 156 RX7 yX7_isGoose wsX7_isGoose) := goodIn_app (goodIn_of _ (by decide +kernel)) ggX7_kinds_X7_isGoose
set_option maxRecDepth 20000 in
theorem ggX7_kinds_X7_kindsOf : GoodIn wsX7_kinds wsX7_kindsOf := goodIn_r _ [13, 14, 15, 16, 17, 4, 18, 19, 20, 21, 22, 23, 24, 25, 26, 27, 28, 29, 30, 31, 32, 33, 6, 34, 35, 36, 37, 38, 39, 40, 41, 42, 43, 44, 45, 46, 47, 48, 49, 50, 51, 52, 53, 54, 55, 56, 57, 58, 59, 60, 61, 62, 63, 64, 65, 66, 67, 68, 69, 70, 71, 72, 73, 74, 75, 76, 77, 78, 79, 80, 81, 82] (by decide +kernel) (by decide +kernel)
set_option maxRecDepth 20000 in
theorem gX7_kinds_X7_kindsOf : GoodIn wsX7_kinds (wsV RX7 286 RX7 yX7_kindsOf wsX7_kindsOf) := goodIn_app (goodIn_of _ (by decide +kernel)) ggX7_kinds_X7_kindsOf
theorem dX7_kinds_0 : decode cX7_kinds 0 = .ok (.aload_n 0, 1) := by decide +kernel
theorem dX7_kinds_1 : decode cX7_kinds 1 = .ok (.iload_n 1, 1) := by decide +kernel
theorem dX7_kinds_2 : decode cX7_kinds 2 = .ok (.invokevirtual 156, 3) := by decide +kernel
theorem dX7_kinds_5 : decode cX7_kinds 5 = .ok (.ifCond .eq 11, 3) := by decide +kernel
theorem dX7_kinds_8 : decode cX7_kinds 8 = .ok (.aload_n 0, 1) := by decide +kernel
theorem dX7_kinds_9 : decode cX7_kinds 9 = .ok (.iload_n 1, 1) := by decide +kernel
theorem dX7_kinds_10 : decode cX7_kinds 10 = .ok (.invokevirtual 286, 3) := by decide +kernel
theorem dX7_kinds_13 : decode cX7_kinds 13 = .ok (.goto 4, 3) := by decide +kernel
theorem dX7_kinds_16 : decode cX7_kinds 16 = .ok (.iconst (-1), 1) := by decide +kernel
theorem dX7_kinds_17 : decode cX7_kinds 17 = .ok (.ireturn, 1) := by decide +kernel
set_option maxRecDepth 20000 in
theorem ggX7_skins_X7_isGoose : GoodIn wsX7_skins wsX7_isGoose := goodIn_r _ [6, 7, 8, 9, 5, 10, 45, 46, 47, 48, 49, 50, 51, 52, 53, 54, 55, 56, 57, 58, 59, 60, 61, 62, 63, 64, 65, 66, 67, 68, 69, 70, 71, 72, 73, 74, 75, 76, 77, 78] (by decide +kernel) (by decide +kernel)
set_option maxRecDepth 20000 in
theorem gX7_skins_X7_isGoose : GoodIn wsX7_skins (wsV RX7 156 RX7 yX7_isGoose wsX7_isGoose) := goodIn_app (goodIn_of _ (by decide +kernel)) ggX7_skins_X7_isGoose
set_option maxRecDepth 20000 in
theorem ggX7_skins_X7_isAsSeen : GoodIn wsX7_skins wsX7_isAsSeen := goodIn_r _ [14, 15, 16, 17, 18, 19, 20, 5, 21, 1, 22, 23, 24, 25, 26, 27, 28, 29, 7, 30, 31, 32, 33, 34, 35, 36, 37, 38, 39, 40, 41, 42, 43, 44, 45, 46, 47, 48, 49, 50, 51, 52, 53, 54, 55, 56, 57, 58, 59, 60, 61, 62, 63, 64, 65, 66, 67, 68, 69, 70, 71, 72, 73, 74, 75, 76, 77, 78] (by decide +kernel) (by decide +kernel)
set_option maxRecDepth 20000 in
theorem gX7_skins_X7_isAsSeen : GoodIn wsX7_skins (wsV RX7 282 RX7 yX7_isAsSeen wsX7_isAsSeen) := goodIn_app (goodIn_of _ (by decide +kernel)) ggX7_skins_X7_isAsSeen
theorem dX7_skins_0 : decode cX7_skins 0 = .ok (.aload_n 0, 1) := by decide +kernel
theorem dX7_skins_1 : decode cX7_skins 1 = .ok (.iload_n 1, 1) := by decide +kernel
theorem dX7_skins_2 : decode cX7_skins 2 = .ok (.invokevirtual 156, 3) := by decide +kernel
theorem dX7_skins_5 : decode cX7_skins 5 = .ok (.ifCond .ne 5, 3) := by decide +kernel
theorem dX7_skins_8 : decode cX7_skins 8 = .ok (.iconst (-1), 1) := by decide +kernel
theorem dX7_skins_9 : decode cX7_skins 9 = .ok (.ireturn, 1) := by decide +kernel
theorem dX7_skins_10 : decode cX7_skins 10 = .ok (.aload_n 0, 1) := by decide +kernel
theorem dX7_skins_11 : decode cX7_skins 11 = .ok (.getfield 7, 3) := by decide +kernel
theorem dX7_skins_14 : decode cX7_skins 14 = .ok (.iconst 3, 1) := by decide +kernel
theorem dX7_skins_15 : decode cX7_skins 15 = .ok (.iload_n 1, 1) := by decide +kernel
theorem dX7_skins_16 : decode cX7_skins 16 = .ok (.iadd, 1) := by decide +kernel
theorem dX7_skins_17 : decode cX7_skins 17 = .ok (.iaload, 1) := by decide +kernel
theorem dX7_skins_18 : decode cX7_skins 18 = .ok (.istore_n 2, 1) := by decide +kernel
theorem dX7_skins_19 : decode cX7_skins 19 = .ok (.iconst 0, 1) := by decide +kernel
theorem dX7_skins_20 : decode cX7_skins 20 = .ok (.istore_n 3, 1) := by decide +kernel
theorem dX7_skins_21 : decode cX7_skins 21 = .ok (.iconst 0, 1) := by decide +kernel
theorem dX7_skins_22 : decode cX7_skins 22 = .ok (.istore 4, 2) := by decide +kernel
theorem dX7_skins_24 : decode cX7_skins 24 = .ok (.iload 4, 2) := by decide +kernel
theorem dX7_skins_26 : decode cX7_skins 26 = .ok (.iconst 5, 1) := by decide +kernel
theorem dX7_skins_27 : decode cX7_skins 27 = .ok (.if_icmp .ge 39, 3) := by decide +kernel
theorem dX7_skins_30 : decode cX7_skins 30 = .ok (.aload_n 0, 1) := by decide +kernel
theorem dX7_skins_31 : decode cX7_skins 31 = .ok (.getfield 7, 3) := by decide +kernel
theorem dX7_skins_34 : decode cX7_skins 34 = .ok (.iconst 3, 1) := by decide +kernel
theorem dX7_skins_35 : decode cX7_skins 35 = .ok (.iload_n 1, 1) := by decide +kernel
theorem dX7_skins_36 : decode cX7_skins 36 = .ok (.iadd, 1) := by decide +kernel
theorem dX7_skins_37 : decode cX7_skins 37 = .ok (.iload 4, 2) := by decide +kernel
theorem dX7_skins_39 : decode cX7_skins 39 = .ok (.iastore, 1) := by decide +kernel
theorem dX7_skins_40 : decode cX7_skins 40 = .ok (.iload_n 3, 1) := by decide +kernel
theorem dX7_skins_41 : decode cX7_skins 41 = .ok (.aload_n 0, 1) := by decide +kernel
theorem dX7_skins_42 : decode cX7_skins 42 = .ok (.iload_n 1, 1) := by decide +kernel
theorem dX7_skins_43 : decode cX7_skins 43 = .ok (.iconst 0, 1) := by decide +kernel
theorem dX7_skins_44 : decode cX7_skins 44 = .ok (.invokevirtual 282, 3) := by decide +kernel
theorem dX7_skins_47 : decode cX7_skins 47 = .ok (.ifCond .eq 10, 3) := by decide +kernel
theorem dX7_skins_50 : decode cX7_skins 50 = .ok (.iconst 1, 1) := by decide +kernel
theorem dX7_skins_51 : decode cX7_skins 51 = .ok (.iload 4, 2) := by decide +kernel
theorem dX7_skins_53 : decode cX7_skins 53 = .ok (.ishl, 1) := by decide +kernel
theorem dX7_skins_54 : decode cX7_skins 54 = .ok (.goto 4, 3) := by decide +kernel
theorem dX7_skins_57 : decode cX7_skins 57 = .ok (.iconst 0, 1) := by decide +kernel
theorem dX7_skins_58 : decode cX7_skins 58 = .ok (.ior, 1) := by decide +kernel
theorem dX7_skins_59 : decode cX7_skins 59 = .ok (.istore_n 3, 1) := by decide +kernel
theorem dX7_skins_60 : decode cX7_skins 60 = .ok (.iinc 4 1, 3) := by decide +kernel
theorem dX7_skins_63 : decode cX7_skins 63 = .ok (.goto (-39), 3) := by decide +kernel
theorem dX7_skins_66 : decode cX7_skins 66 = .ok (.aload_n 0, 1) := by decide +kernel
theorem dX7_skins_67 : decode cX7_skins 67 = .ok (.getfield 7, 3) := by decide +kernel
theorem dX7_skins_70 : decode cX7_skins 70 = .ok (.iconst 3, 1) := by decide +kernel
theorem dX7_skins_71 : decode cX7_skins 71 = .ok (.iload_n 1, 1) := by decide +kernel
theorem dX7_skins_72 : decode cX7_skins 72 = .ok (.iadd, 1) := by decide +kernel
theorem dX7_skins_73 : decode cX7_skins 73 = .ok (.iload_n 2, 1) := by decide +kernel
theorem dX7_skins_74 : decode cX7_skins 74 = .ok (.iastore, 1) := by decide +kernel
theorem dX7_skins_75 : decode cX7_skins 75 = .ok (.iload_n 3, 1) := by decide +kernel
theorem dX7_skins_76 : decode cX7_skins 76 = .ok (.ireturn, 1) := by decide +kernel
theorem dX7_bitsOf_0 : decode cX7_bitsOf 0 = .ok (.iconst 0, 1) := by decide +kernel
theorem dX7_bitsOf_1 : decode cX7_bitsOf 1 = .ok (.istore_n 1, 1) := by decide +kernel
theorem dX7_bitsOf_2 : decode cX7_bitsOf 2 = .ok (.iconst 0, 1) := by decide +kernel
theorem dX7_bitsOf_3 : decode cX7_bitsOf 3 = .ok (.istore_n 2, 1) := by decide +kernel
theorem dX7_bitsOf_4 : decode cX7_bitsOf 4 = .ok (.iload_n 2, 1) := by decide +kernel
theorem dX7_bitsOf_5 : decode cX7_bitsOf 5 = .ok (.iconst 5, 1) := by decide +kernel
theorem dX7_bitsOf_6 : decode cX7_bitsOf 6 = .ok (.if_icmp .ge 17, 3) := by decide +kernel
theorem dX7_bitsOf_9 : decode cX7_bitsOf 9 = .ok (.iload_n 1, 1) := by decide +kernel
theorem dX7_bitsOf_10 : decode cX7_bitsOf 10 = .ok (.iload_n 0, 1) := by decide +kernel
theorem dX7_bitsOf_11 : decode cX7_bitsOf 11 = .ok (.iload_n 2, 1) := by decide +kernel
theorem dX7_bitsOf_12 : decode cX7_bitsOf 12 = .ok (.ishr, 1) := by decide +kernel
theorem dX7_bitsOf_13 : decode cX7_bitsOf 13 = .ok (.iconst 1, 1) := by decide +kernel
theorem dX7_bitsOf_14 : decode cX7_bitsOf 14 = .ok (.iand, 1) := by decide +kernel
theorem dX7_bitsOf_15 : decode cX7_bitsOf 15 = .ok (.iadd, 1) := by decide +kernel
theorem dX7_bitsOf_16 : decode cX7_bitsOf 16 = .ok (.istore_n 1, 1) := by decide +kernel
theorem dX7_bitsOf_17 : decode cX7_bitsOf 17 = .ok (.iinc 2 1, 3) := by decide +kernel
theorem dX7_bitsOf_20 : decode cX7_bitsOf 20 = .ok (.goto (-16), 3) := by decide +kernel
theorem dX7_bitsOf_23 : decode cX7_bitsOf 23 = .ok (.iload_n 1, 1) := by decide +kernel
theorem dX7_bitsOf_24 : decode cX7_bitsOf 24 = .ok (.ireturn, 1) := by decide +kernel
set_option maxRecDepth 20000 in
theorem ggX7_look_X7_isGoose : GoodIn wsX7_look wsX7_isGoose := goodIn_r _ [6, 7, 8, 9, 5, 10, 52, 53, 54, 55, 56, 57, 58, 59, 60, 61, 62, 63, 64, 65, 66, 67, 68, 69, 70, 71, 72, 73, 74, 75, 76, 77, 78, 79, 80, 81, 82, 83, 84, 85] (by decide +kernel) (by decide +kernel)
set_option maxRecDepth 20000 in
theorem gX7_look_X7_isGoose : GoodIn wsX7_look (wsV RX7 156 RX7 yX7_isGoose wsX7_isGoose) := goodIn_app (goodIn_of _ (by decide +kernel)) ggX7_look_X7_isGoose
set_option maxRecDepth 20000 in
theorem ggX7_look_X7_in : GoodIn wsX7_look wsX7_in := goodIn_r _ [10] (by decide +kernel) (by decide +kernel)
set_option maxRecDepth 20000 in
theorem gX7_look_X7_in : GoodIn wsX7_look (va_wsS RX7 46 yX7_in wsX7_in) := goodIn_app (goodIn_of _ (by decide +kernel)) ggX7_look_X7_in
set_option maxRecDepth 20000 in
theorem ggX7_look_X7_kindsOf : GoodIn wsX7_look wsX7_kindsOf := goodIn_r _ [14, 15, 16, 17, 18, 5, 19, 1, 20, 21, 22, 23, 24, 25, 26, 27, 28, 29, 30, 31, 32, 33, 7, 34, 35, 36, 37, 38, 39, 40, 41, 42, 43, 44, 45, 46, 47, 48, 52, 53, 54, 55, 56, 57, 58, 59, 60, 61, 62, 63, 64, 65, 66, 67, 68, 69, 70, 71, 72, 73, 74, 75, 76, 77, 78, 79, 80, 81, 82, 83, 84, 85] (by decide +kernel) (by decide +kernel)
set_option maxRecDepth 20000 in
theorem gX7_look_X7_kindsOf : GoodIn wsX7_look (wsV RX7 286 RX7 yX7_kindsOf wsX7_kindsOf) := goodIn_app (goodIn_of _ (by decide +kernel)) ggX7_look_X7_kindsOf
set_option maxRecDepth 20000 in
theorem ggX7_look_X7_bitsOf : GoodIn wsX7_look wsX7_bitsOf := goodIn_r _ [51] (by decide +kernel) (by decide +kernel)
set_option maxRecDepth 20000 in
theorem gX7_look_X7_bitsOf : GoodIn wsX7_look (va_wsS RX7 229 yX7_bitsOf wsX7_bitsOf) := goodIn_app (goodIn_of _ (by decide +kernel)) ggX7_look_X7_bitsOf
theorem dX7_look_0 : decode cX7_look 0 = .ok (.aload_n 0, 1) := by decide +kernel
theorem dX7_look_1 : decode cX7_look 1 = .ok (.iload_n 1, 1) := by decide +kernel
theorem dX7_look_2 : decode cX7_look 2 = .ok (.invokevirtual 156, 3) := by decide +kernel
theorem dX7_look_5 : decode cX7_look 5 = .ok (.ifCond .eq 13, 3) := by decide +kernel
theorem dX7_look_8 : decode cX7_look 8 = .ok (.iload_n 2, 1) := by decide +kernel
theorem dX7_look_9 : decode cX7_look 9 = .ok (.i2l, 1) := by decide +kernel
theorem dX7_look_10 : decode cX7_look 10 = .ok (.lconst 0, 1) := by decide +kernel
theorem dX7_look_11 : decode cX7_look 11 = .ok (.lconst 1, 1) := by decide +kernel
theorem dX7_look_12 : decode cX7_look 12 = .ok (.invokestatic 46, 3) := by decide +kernel
theorem dX7_look_15 : decode cX7_look 15 = .ok (.ifCond .ne 5, 3) := by decide +kernel
theorem dX7_look_18 : decode cX7_look 18 = .ok (.iconst (-1), 1) := by decide +kernel
theorem dX7_look_19 : decode cX7_look 19 = .ok (.ireturn, 1) := by decide +kernel
theorem dX7_look_20 : decode cX7_look 20 = .ok (.aload_n 0, 1) := by decide +kernel
theorem dX7_look_21 : decode cX7_look 21 = .ok (.iload_n 1, 1) := by decide +kernel
theorem dX7_look_22 : decode cX7_look 22 = .ok (.invokevirtual 286, 3) := by decide +kernel
theorem dX7_look_25 : decode cX7_look 25 = .ok (.istore_n 3, 1) := by decide +kernel
theorem dX7_look_26 : decode cX7_look 26 = .ok (.iload_n 3, 1) := by decide +kernel
theorem dX7_look_27 : decode cX7_look 27 = .ok (.invokestatic 229, 3) := by decide +kernel
theorem dX7_look_30 : decode cX7_look 30 = .ok (.istore 4, 2) := by decide +kernel
theorem dX7_look_32 : decode cX7_look 32 = .ok (.bipush (-4), 2) := by decide +kernel
theorem dX7_look_34 : decode cX7_look 34 = .ok (.istore 5, 2) := by decide +kernel
theorem dX7_look_36 : decode cX7_look 36 = .ok (.iconst 0, 1) := by decide +kernel
theorem dX7_look_37 : decode cX7_look 37 = .ok (.istore 6, 2) := by decide +kernel
theorem dX7_look_39 : decode cX7_look 39 = .ok (.iload 6, 2) := by decide +kernel
theorem dX7_look_41 : decode cX7_look 41 = .ok (.bipush 105, 2) := by decide +kernel
theorem dX7_look_43 : decode cX7_look 43 = .ok (.if_icmp .ge 162, 3) := by decide +kernel
theorem dX7_look_46 : decode cX7_look 46 = .ok (.iconst 0, 1) := by decide +kernel
theorem dX7_look_47 : decode cX7_look 47 = .ok (.istore 7, 2) := by decide +kernel
theorem dX7_look_49 : decode cX7_look 49 = .ok (.iconst 0, 1) := by decide +kernel
theorem dX7_look_50 : decode cX7_look 50 = .ok (.istore 8, 2) := by decide +kernel
theorem dX7_look_52 : decode cX7_look 52 = .ok (.iload 8, 2) := by decide +kernel
theorem dX7_look_54 : decode cX7_look 54 = .ok (.iconst 4, 1) := by decide +kernel
theorem dX7_look_55 : decode cX7_look 55 = .ok (.if_icmp .ge 102, 3) := by decide +kernel
theorem dX7_look_58 : decode cX7_look 58 = .ok (.iconst 0, 1) := by decide +kernel
theorem dX7_look_59 : decode cX7_look 59 = .ok (.istore 9, 2) := by decide +kernel
theorem dX7_look_61 : decode cX7_look 61 = .ok (.iconst 0, 1) := by decide +kernel
theorem dX7_look_62 : decode cX7_look 62 = .ok (.istore 10, 2) := by decide +kernel
theorem dX7_look_64 : decode cX7_look 64 = .ok (.iload 10, 2) := by decide +kernel
theorem dX7_look_66 : decode cX7_look 66 = .ok (.iconst 4, 1) := by decide +kernel
theorem dX7_look_67 : decode cX7_look 67 = .ok (.if_icmp .ge 68, 3) := by decide +kernel
theorem dX7_look_70 : decode cX7_look 70 = .ok (.iload_n 3, 1) := by decide +kernel
theorem dX7_look_71 : decode cX7_look 71 = .ok (.iload 8, 2) := by decide +kernel
theorem dX7_look_73 : decode cX7_look 73 = .ok (.ishr, 1) := by decide +kernel
theorem dX7_look_74 : decode cX7_look 74 = .ok (.iconst 1, 1) := by decide +kernel
theorem dX7_look_75 : decode cX7_look 75 = .ok (.iand, 1) := by decide +kernel
theorem dX7_look_76 : decode cX7_look 76 = .ok (.iconst 1, 1) := by decide +kernel
theorem dX7_look_77 : decode cX7_look 77 = .ok (.if_icmp .ne 58, 3) := by decide +kernel
theorem dX7_look_80 : decode cX7_look 80 = .ok (.iload 9, 2) := by decide +kernel
theorem dX7_look_82 : decode cX7_look 82 = .ok (.iload_n 3, 1) := by decide +kernel
theorem dX7_look_83 : decode cX7_look 83 = .ok (.iload 10, 2) := by decide +kernel
theorem dX7_look_85 : decode cX7_look 85 = .ok (.ishr, 1) := by decide +kernel
theorem dX7_look_86 : decode cX7_look 86 = .ok (.iconst 1, 1) := by decide +kernel
theorem dX7_look_87 : decode cX7_look 87 = .ok (.iand, 1) := by decide +kernel
theorem dX7_look_88 : decode cX7_look 88 = .ok (.iconst 1, 1) := by decide +kernel
theorem dX7_look_89 : decode cX7_look 89 = .ok (.if_icmp .ne 36, 3) := by decide +kernel
theorem dX7_look_92 : decode cX7_look 92 = .ok (.aload_n 0, 1) := by decide +kernel
theorem dX7_look_93 : decode cX7_look 93 = .ok (.getfield 28, 3) := by decide +kernel
theorem dX7_look_96 : decode cX7_look 96 = .ok (.bipush 105, 2) := by decide +kernel
theorem dX7_look_98 : decode cX7_look 98 = .ok (.iload 8, 2) := by decide +kernel
theorem dX7_look_100 : decode cX7_look 100 = .ok (.imul, 1) := by decide +kernel
theorem dX7_look_101 : decode cX7_look 101 = .ok (.iload 6, 2) := by decide +kernel
theorem dX7_look_103 : decode cX7_look 103 = .ok (.iadd, 1) := by decide +kernel
theorem dX7_look_104 : decode cX7_look 104 = .ok (.iaload, 1) := by decide +kernel
theorem dX7_look_105 : decode cX7_look 105 = .ok (.aload_n 0, 1) := by decide +kernel
theorem dX7_look_106 : decode cX7_look 106 = .ok (.getfield 28, 3) := by decide +kernel
theorem dX7_look_109 : decode cX7_look 109 = .ok (.bipush 105, 2) := by decide +kernel
theorem dX7_look_111 : decode cX7_look 111 = .ok (.iload 10, 2) := by decide +kernel
theorem dX7_look_113 : decode cX7_look 113 = .ok (.imul, 1) := by decide +kernel
theorem dX7_look_114 : decode cX7_look 114 = .ok (.iload 6, 2) := by decide +kernel
theorem dX7_look_116 : decode cX7_look 116 = .ok (.iadd, 1) := by decide +kernel
theorem dX7_look_117 : decode cX7_look 117 = .ok (.iaload, 1) := by decide +kernel
theorem dX7_look_118 : decode cX7_look 118 = .ok (.if_icmp .ne 7, 3) := by decide +kernel
theorem dX7_look_121 : decode cX7_look 121 = .ok (.iconst 1, 1) := by decide +kernel
theorem dX7_look_122 : decode cX7_look 122 = .ok (.goto 4, 3) := by decide +kernel
theorem dX7_look_125 : decode cX7_look 125 = .ok (.iconst 0, 1) := by decide +kernel
theorem dX7_look_126 : decode cX7_look 126 = .ok (.iadd, 1) := by decide +kernel
theorem dX7_look_127 : decode cX7_look 127 = .ok (.istore 9, 2) := by decide +kernel
theorem dX7_look_129 : decode cX7_look 129 = .ok (.iinc 10 1, 3) := by decide +kernel
theorem dX7_look_132 : decode cX7_look 132 = .ok (.goto (-68), 3) := by decide +kernel
theorem dX7_look_135 : decode cX7_look 135 = .ok (.iload 9, 2) := by decide +kernel
theorem dX7_look_137 : decode cX7_look 137 = .ok (.iload 7, 2) := by decide +kernel
theorem dX7_look_139 : decode cX7_look 139 = .ok (.if_icmp .le 8, 3) := by decide +kernel
theorem dX7_look_142 : decode cX7_look 142 = .ok (.iload 9, 2) := by decide +kernel
theorem dX7_look_144 : decode cX7_look 144 = .ok (.goto 5, 3) := by decide +kernel
theorem dX7_look_147 : decode cX7_look 147 = .ok (.iload 7, 2) := by decide +kernel
theorem dX7_look_149 : decode cX7_look 149 = .ok (.istore 7, 2) := by decide +kernel
theorem dX7_look_151 : decode cX7_look 151 = .ok (.iinc 8 1, 3) := by decide +kernel
theorem dX7_look_154 : decode cX7_look 154 = .ok (.goto (-102), 3) := by decide +kernel
theorem dX7_look_157 : decode cX7_look 157 = .ok (.iload 7, 2) := by decide +kernel
theorem dX7_look_159 : decode cX7_look 159 = .ok (.iload 4, 2) := by decide +kernel
theorem dX7_look_161 : decode cX7_look 161 = .ok (.if_icmp .ge 18, 3) := by decide +kernel
theorem dX7_look_164 : decode cX7_look 164 = .ok (.bipush 10, 2) := by decide +kernel
theorem dX7_look_166 : decode cX7_look 166 = .ok (.iload 6, 2) := by decide +kernel
theorem dX7_look_168 : decode cX7_look 168 = .ok (.iconst 5, 1) := by decide +kernel
theorem dX7_look_169 : decode cX7_look 169 = .ok (.idiv, 1) := by decide +kernel
theorem dX7_look_170 : decode cX7_look 170 = .ok (.imul, 1) := by decide +kernel
theorem dX7_look_171 : decode cX7_look 171 = .ok (.iload 6, 2) := by decide +kernel
theorem dX7_look_173 : decode cX7_look 173 = .ok (.iconst 5, 1) := by decide +kernel
theorem dX7_look_174 : decode cX7_look 174 = .ok (.irem, 1) := by decide +kernel
theorem dX7_look_175 : decode cX7_look 175 = .ok (.iadd, 1) := by decide +kernel
theorem dX7_look_176 : decode cX7_look 176 = .ok (.goto 5, 3) := by decide +kernel
theorem dX7_look_179 : decode cX7_look 179 = .ok (.iload 5, 2) := by decide +kernel
theorem dX7_look_181 : decode cX7_look 181 = .ok (.istore 5, 2) := by decide +kernel
theorem dX7_look_183 : decode cX7_look 183 = .ok (.iload 7, 2) := by decide +kernel
theorem dX7_look_185 : decode cX7_look 185 = .ok (.iload 4, 2) := by decide +kernel
theorem dX7_look_187 : decode cX7_look 187 = .ok (.if_icmp .ge 8, 3) := by decide +kernel
theorem dX7_look_190 : decode cX7_look 190 = .ok (.iload 7, 2) := by decide +kernel
theorem dX7_look_192 : decode cX7_look 192 = .ok (.goto 5, 3) := by decide +kernel
theorem dX7_look_195 : decode cX7_look 195 = .ok (.iload 4, 2) := by decide +kernel
theorem dX7_look_197 : decode cX7_look 197 = .ok (.istore 4, 2) := by decide +kernel
theorem dX7_look_199 : decode cX7_look 199 = .ok (.iinc 6 1, 3) := by decide +kernel
theorem dX7_look_202 : decode cX7_look 202 = .ok (.goto (-163), 3) := by decide +kernel
theorem dX7_look_205 : decode cX7_look 205 = .ok (.iload 5, 2) := by decide +kernel
theorem dX7_look_207 : decode cX7_look 207 = .ok (.bipush (-4), 2) := by decide +kernel
theorem dX7_look_209 : decode cX7_look 209 = .ok (.if_icmp .eq 7, 3) := by decide +kernel
theorem dX7_look_212 : decode cX7_look 212 = .ok (.iload_n 2, 1) := by decide +kernel
theorem dX7_look_213 : decode cX7_look 213 = .ok (.ifCond .ne 8, 3) := by decide +kernel
theorem dX7_look_216 : decode cX7_look 216 = .ok (.iload 5, 2) := by decide +kernel
theorem dX7_look_218 : decode cX7_look 218 = .ok (.goto 5, 3) := by decide +kernel
theorem dX7_look_221 : decode cX7_look 221 = .ok (.iload 4, 2) := by decide +kernel
theorem dX7_look_223 : decode cX7_look 223 = .ok (.ireturn, 1) := by decide +kernel
set_option maxRecDepth 20000 in
theorem ggX7_drift_X7_in : GoodIn wsX7_drift wsX7_in := goodIn_r _ [7] (by decide +kernel) (by decide +kernel)
set_option maxRecDepth 20000 in
theorem gX7_drift_X7_in : GoodIn wsX7_drift (va_wsS RX7 46 yX7_in wsX7_in) := goodIn_app (goodIn_of _ (by decide +kernel)) ggX7_drift_X7_in
set_option maxRecDepth 20000 in
theorem ggX7_drift_X7_copies : GoodIn wsX7_drift wsX7_copies := goodIn_r _ [11, 12, 48, 49, 50, 51, 52, 53, 54, 55, 56, 57, 58, 59, 60, 61, 62, 63, 64, 65, 66, 67, 68, 69, 70, 71, 72, 73, 74, 75, 76, 77, 78, 79, 80, 81] (by decide +kernel) (by decide +kernel)
set_option maxRecDepth 20000 in
theorem gX7_drift_X7_copies : GoodIn wsX7_drift (wsV RX7 205 RX7 yX7_copies wsX7_copies) := goodIn_app (goodIn_of _ (by decide +kernel)) ggX7_drift_X7_copies
set_option maxRecDepth 20000 in
theorem ggX7_drift_X7_buysOn : GoodIn wsX7_drift wsX7_buysOn := goodIn_r _ [16, 12, 17, 18, 19, 6, 20, 21, 22, 23, 24, 25, 26, 27, 28, 48, 49, 50, 51, 52, 53, 54, 55, 56, 57, 58, 59, 60, 61, 62, 63, 64, 65, 66, 67, 68, 69, 70, 71, 72, 73, 74, 75, 76, 77, 78, 79, 80, 81] (by decide +kernel) (by decide +kernel)
set_option maxRecDepth 20000 in
theorem gX7_drift_X7_buysOn : GoodIn wsX7_drift (wsV RX7 192 RX7 yX7_buysOn wsX7_buysOn) := goodIn_app (goodIn_of _ (by decide +kernel)) ggX7_drift_X7_buysOn
set_option maxRecDepth 20000 in
theorem ggX7_drift_X7_weekOn : GoodIn wsX7_drift wsX7_weekOn := goodIn_r _ [32, 2, 12, 33, 34, 35, 6, 36, 25, 26, 27, 28, 37, 38, 39, 40, 41, 42, 43, 44, 45, 46, 47, 48, 49, 50, 51, 52, 53, 54, 55, 56, 57, 58, 59, 60, 61, 62, 63, 64, 65, 66, 67, 68, 69, 70, 71, 72, 73, 74, 75, 76, 77, 78, 79, 80, 81] (by decide +kernel) (by decide +kernel)
set_option maxRecDepth 20000 in
theorem gX7_drift_X7_weekOn : GoodIn wsX7_drift (wsV RX7 201 RX7 yX7_weekOn wsX7_weekOn) := goodIn_app (goodIn_of _ (by decide +kernel)) ggX7_drift_X7_weekOn
theorem dX7_drift_0 : decode cX7_drift 0 = .ok (.iload_n 2, 1) := by decide +kernel
theorem dX7_drift_1 : decode cX7_drift 1 = .ok (.i2l, 1) := by decide +kernel
theorem dX7_drift_2 : decode cX7_drift 2 = .ok (.lconst 1, 1) := by decide +kernel
theorem dX7_drift_3 : decode cX7_drift 3 = .ok (.ldc2_w 222, 3) := by decide +kernel
theorem dX7_drift_6 : decode cX7_drift 6 = .ok (.invokestatic 46, 3) := by decide +kernel
theorem dX7_drift_9 : decode cX7_drift 9 = .ok (.ifCond .eq 13, 3) := by decide +kernel
theorem dX7_drift_12 : decode cX7_drift 12 = .ok (.iload_n 3, 1) := by decide +kernel
theorem dX7_drift_13 : decode cX7_drift 13 = .ok (.i2l, 1) := by decide +kernel
theorem dX7_drift_14 : decode cX7_drift 14 = .ok (.lconst 0, 1) := by decide +kernel
theorem dX7_drift_15 : decode cX7_drift 15 = .ok (.lconst 1, 1) := by decide +kernel
theorem dX7_drift_16 : decode cX7_drift 16 = .ok (.invokestatic 46, 3) := by decide +kernel
theorem dX7_drift_19 : decode cX7_drift 19 = .ok (.ifCond .ne 5, 3) := by decide +kernel
theorem dX7_drift_22 : decode cX7_drift 22 = .ok (.iconst (-1), 1) := by decide +kernel
theorem dX7_drift_23 : decode cX7_drift 23 = .ok (.ireturn, 1) := by decide +kernel
theorem dX7_drift_24 : decode cX7_drift 24 = .ok (.aload_n 0, 1) := by decide +kernel
theorem dX7_drift_25 : decode cX7_drift 25 = .ok (.getfield 128, 3) := by decide +kernel
theorem dX7_drift_28 : decode cX7_drift 28 = .ok (.ifCond .ne 6, 3) := by decide +kernel
theorem dX7_drift_31 : decode cX7_drift 31 = .ok (.bipush (-2), 2) := by decide +kernel
theorem dX7_drift_33 : decode cX7_drift 33 = .ok (.ireturn, 1) := by decide +kernel
theorem dX7_drift_34 : decode cX7_drift 34 = .ok (.aload_n 0, 1) := by decide +kernel
theorem dX7_drift_35 : decode cX7_drift 35 = .ok (.iconst 0, 1) := by decide +kernel
theorem dX7_drift_36 : decode cX7_drift 36 = .ok (.sipush 240, 3) := by decide +kernel
theorem dX7_drift_39 : decode cX7_drift 39 = .ok (.invokevirtual 205, 3) := by decide +kernel
theorem dX7_drift_42 : decode cX7_drift 42 = .ok (.iload_n 1, 1) := by decide +kernel
theorem dX7_drift_43 : decode cX7_drift 43 = .ok (.istore 4, 2) := by decide +kernel
theorem dX7_drift_45 : decode cX7_drift 45 = .ok (.iconst 0, 1) := by decide +kernel
theorem dX7_drift_46 : decode cX7_drift 46 = .ok (.istore 5, 2) := by decide +kernel
theorem dX7_drift_48 : decode cX7_drift 48 = .ok (.iconst 0, 1) := by decide +kernel
theorem dX7_drift_49 : decode cX7_drift 49 = .ok (.istore 6, 2) := by decide +kernel
theorem dX7_drift_51 : decode cX7_drift 51 = .ok (.iconst 0, 1) := by decide +kernel
theorem dX7_drift_52 : decode cX7_drift 52 = .ok (.istore 7, 2) := by decide +kernel
theorem dX7_drift_54 : decode cX7_drift 54 = .ok (.iload 7, 2) := by decide +kernel
theorem dX7_drift_56 : decode cX7_drift 56 = .ok (.iload_n 2, 1) := by decide +kernel
theorem dX7_drift_57 : decode cX7_drift 57 = .ok (.if_icmp .ge 107, 3) := by decide +kernel
theorem dX7_drift_60 : decode cX7_drift 60 = .ok (.iload 4, 2) := by decide +kernel
theorem dX7_drift_62 : decode cX7_drift 62 = .ok (.ldc_w 289, 3) := by decide +kernel
theorem dX7_drift_65 : decode cX7_drift 65 = .ok (.imul, 1) := by decide +kernel
theorem dX7_drift_66 : decode cX7_drift 66 = .ok (.sipush 12345, 3) := by decide +kernel
theorem dX7_drift_69 : decode cX7_drift 69 = .ok (.iadd, 1) := by decide +kernel
theorem dX7_drift_70 : decode cX7_drift 70 = .ok (.istore 4, 2) := by decide +kernel
theorem dX7_drift_72 : decode cX7_drift 72 = .ok (.iload 4, 2) := by decide +kernel
theorem dX7_drift_74 : decode cX7_drift 74 = .ok (.bipush 16, 2) := by decide +kernel
theorem dX7_drift_76 : decode cX7_drift 76 = .ok (.ishr, 1) := by decide +kernel
theorem dX7_drift_77 : decode cX7_drift 77 = .ok (.sipush 32767, 3) := by decide +kernel
theorem dX7_drift_80 : decode cX7_drift 80 = .ok (.iand, 1) := by decide +kernel
theorem dX7_drift_81 : decode cX7_drift 81 = .ok (.istore 8, 2) := by decide +kernel
theorem dX7_drift_83 : decode cX7_drift 83 = .ok (.iload 8, 2) := by decide +kernel
theorem dX7_drift_85 : decode cX7_drift 85 = .ok (.iconst 4, 1) := by decide +kernel
theorem dX7_drift_86 : decode cX7_drift 86 = .ok (.idiv, 1) := by decide +kernel
theorem dX7_drift_87 : decode cX7_drift 87 = .ok (.iconst 5, 1) := by decide +kernel
theorem dX7_drift_88 : decode cX7_drift 88 = .ok (.irem, 1) := by decide +kernel
theorem dX7_drift_89 : decode cX7_drift 89 = .ok (.istore 9, 2) := by decide +kernel
theorem dX7_drift_91 : decode cX7_drift 91 = .ok (.iload 8, 2) := by decide +kernel
theorem dX7_drift_93 : decode cX7_drift 93 = .ok (.bipush 32, 2) := by decide +kernel
theorem dX7_drift_95 : decode cX7_drift 95 = .ok (.idiv, 1) := by decide +kernel
theorem dX7_drift_96 : decode cX7_drift 96 = .ok (.iconst 5, 1) := by decide +kernel
theorem dX7_drift_97 : decode cX7_drift 97 = .ok (.irem, 1) := by decide +kernel
theorem dX7_drift_98 : decode cX7_drift 98 = .ok (.istore 10, 2) := by decide +kernel
theorem dX7_drift_100 : decode cX7_drift 100 = .ok (.iload 9, 2) := by decide +kernel
theorem dX7_drift_102 : decode cX7_drift 102 = .ok (.iload 10, 2) := by decide +kernel
theorem dX7_drift_104 : decode cX7_drift 104 = .ok (.if_icmp .eq 41, 3) := by decide +kernel
theorem dX7_drift_107 : decode cX7_drift 107 = .ok (.aload_n 0, 1) := by decide +kernel
theorem dX7_drift_108 : decode cX7_drift 108 = .ok (.sipush 240, 3) := by decide +kernel
theorem dX7_drift_111 : decode cX7_drift 111 = .ok (.iload 9, 2) := by decide +kernel
theorem dX7_drift_113 : decode cX7_drift 113 = .ok (.iload 10, 2) := by decide +kernel
theorem dX7_drift_115 : decode cX7_drift 115 = .ok (.iload 8, 2) := by decide +kernel
theorem dX7_drift_117 : decode cX7_drift 117 = .ok (.aload_n 0, 1) := by decide +kernel
theorem dX7_drift_118 : decode cX7_drift 118 = .ok (.getfield 128, 3) := by decide +kernel
theorem dX7_drift_121 : decode cX7_drift 121 = .ok (.irem, 1) := by decide +kernel
theorem dX7_drift_122 : decode cX7_drift 122 = .ok (.iconst 1, 1) := by decide +kernel
theorem dX7_drift_123 : decode cX7_drift 123 = .ok (.iload 8, 2) := by decide +kernel
theorem dX7_drift_125 : decode cX7_drift 125 = .ok (.sipush 256, 3) := by decide +kernel
theorem dX7_drift_128 : decode cX7_drift 128 = .ok (.idiv, 1) := by decide +kernel
theorem dX7_drift_129 : decode cX7_drift 129 = .ok (.bipush 9, 2) := by decide +kernel
theorem dX7_drift_131 : decode cX7_drift 131 = .ok (.irem, 1) := by decide +kernel
theorem dX7_drift_132 : decode cX7_drift 132 = .ok (.iadd, 1) := by decide +kernel
theorem dX7_drift_133 : decode cX7_drift 133 = .ok (.invokevirtual 192, 3) := by decide +kernel
theorem dX7_drift_136 : decode cX7_drift 136 = .ok (.ifCond .eq 9, 3) := by decide +kernel
theorem dX7_drift_139 : decode cX7_drift 139 = .ok (.iinc 6 1, 3) := by decide +kernel
theorem dX7_drift_142 : decode cX7_drift 142 = .ok (.goto 16, 3) := by decide +kernel
theorem dX7_drift_145 : decode cX7_drift 145 = .ok (.iload 5, 2) := by decide +kernel
theorem dX7_drift_147 : decode cX7_drift 147 = .ok (.aload_n 0, 1) := by decide +kernel
theorem dX7_drift_148 : decode cX7_drift 148 = .ok (.sipush 240, 3) := by decide +kernel
theorem dX7_drift_151 : decode cX7_drift 151 = .ok (.iconst 1, 1) := by decide +kernel
theorem dX7_drift_152 : decode cX7_drift 152 = .ok (.invokevirtual 201, 3) := by decide +kernel
theorem dX7_drift_155 : decode cX7_drift 155 = .ok (.iadd, 1) := by decide +kernel
theorem dX7_drift_156 : decode cX7_drift 156 = .ok (.istore 5, 2) := by decide +kernel
theorem dX7_drift_158 : decode cX7_drift 158 = .ok (.iinc 7 1, 3) := by decide +kernel
theorem dX7_drift_161 : decode cX7_drift 161 = .ok (.goto (-107), 3) := by decide +kernel
theorem dX7_drift_164 : decode cX7_drift 164 = .ok (.iload_n 3, 1) := by decide +kernel
theorem dX7_drift_165 : decode cX7_drift 165 = .ok (.ifCond .ne 8, 3) := by decide +kernel
theorem dX7_drift_168 : decode cX7_drift 168 = .ok (.iload 5, 2) := by decide +kernel
theorem dX7_drift_170 : decode cX7_drift 170 = .ok (.goto 5, 3) := by decide +kernel
theorem dX7_drift_173 : decode cX7_drift 173 = .ok (.iload 6, 2) := by decide +kernel
theorem dX7_drift_175 : decode cX7_drift 175 = .ok (.ireturn, 1) := by decide +kernel
set_option maxRecDepth 20000 in
theorem ggX7_keep_X7_in : GoodIn wsX7_keep wsX7_in := goodIn_r _ [5] (by decide +kernel) (by decide +kernel)
set_option maxRecDepth 20000 in
theorem gX7_keep_X7_in : GoodIn wsX7_keep (va_wsS RX7 46 yX7_in wsX7_in) := goodIn_app (goodIn_of _ (by decide +kernel)) ggX7_keep_X7_in
set_option maxRecDepth 20000 in
theorem ggX7_keep_X7_copies : GoodIn wsX7_keep wsX7_copies := goodIn_r _ [9, 10, 11, 12, 13, 14, 15, 16, 17, 18, 19, 20, 21, 22, 23, 24, 25, 26, 27, 28, 29, 30, 31, 32, 33, 34, 35, 36, 37, 38, 39, 40, 41, 42, 43, 44] (by decide +kernel) (by decide +kernel)
set_option maxRecDepth 20000 in
theorem gX7_keep_X7_copies : GoodIn wsX7_keep (wsV RX7 205 RX7 yX7_copies wsX7_copies) := goodIn_app (goodIn_of _ (by decide +kernel)) ggX7_keep_X7_copies
theorem dX7_keep_0 : decode cX7_keep 0 = .ok (.iload_n 1, 1) := by decide +kernel
theorem dX7_keep_1 : decode cX7_keep 1 = .ok (.i2l, 1) := by decide +kernel
theorem dX7_keep_2 : decode cX7_keep 2 = .ok (.lconst 0, 1) := by decide +kernel
theorem dX7_keep_3 : decode cX7_keep 3 = .ok (.lconst 1, 1) := by decide +kernel
theorem dX7_keep_4 : decode cX7_keep 4 = .ok (.invokestatic 46, 3) := by decide +kernel
theorem dX7_keep_7 : decode cX7_keep 7 = .ok (.ifCond .ne 5, 3) := by decide +kernel
theorem dX7_keep_10 : decode cX7_keep 10 = .ok (.iconst (-1), 1) := by decide +kernel
theorem dX7_keep_11 : decode cX7_keep 11 = .ok (.ireturn, 1) := by decide +kernel
theorem dX7_keep_12 : decode cX7_keep 12 = .ok (.aload_n 0, 1) := by decide +kernel
theorem dX7_keep_13 : decode cX7_keep 13 = .ok (.iconst 0, 1) := by decide +kernel
theorem dX7_keep_14 : decode cX7_keep 14 = .ok (.bipush 60, 2) := by decide +kernel
theorem dX7_keep_16 : decode cX7_keep 16 = .ok (.iload_n 1, 1) := by decide +kernel
theorem dX7_keep_17 : decode cX7_keep 17 = .ok (.iconst 1, 1) := by decide +kernel
theorem dX7_keep_18 : decode cX7_keep 18 = .ok (.iadd, 1) := by decide +kernel
theorem dX7_keep_19 : decode cX7_keep 19 = .ok (.imul, 1) := by decide +kernel
theorem dX7_keep_20 : decode cX7_keep 20 = .ok (.invokevirtual 205, 3) := by decide +kernel
theorem dX7_keep_23 : decode cX7_keep 23 = .ok (.aload_n 0, 1) := by decide +kernel
theorem dX7_keep_24 : decode cX7_keep 24 = .ok (.getfield 31, 3) := by decide +kernel
theorem dX7_keep_27 : decode cX7_keep 27 = .ok (.iload_n 1, 1) := by decide +kernel
theorem dX7_keep_28 : decode cX7_keep 28 = .ok (.baload, 1) := by decide +kernel
theorem dX7_keep_29 : decode cX7_keep 29 = .ok (.ifCond .eq 7, 3) := by decide +kernel
theorem dX7_keep_32 : decode cX7_keep 32 = .ok (.iconst 1, 1) := by decide +kernel
theorem dX7_keep_33 : decode cX7_keep 33 = .ok (.goto 4, 3) := by decide +kernel
theorem dX7_keep_36 : decode cX7_keep 36 = .ok (.iconst 0, 1) := by decide +kernel
theorem dX7_keep_37 : decode cX7_keep 37 = .ok (.istore_n 2, 1) := by decide +kernel
theorem dX7_keep_38 : decode cX7_keep 38 = .ok (.aload_n 0, 1) := by decide +kernel
theorem dX7_keep_39 : decode cX7_keep 39 = .ok (.getfield 31, 3) := by decide +kernel
theorem dX7_keep_42 : decode cX7_keep 42 = .ok (.iload_n 1, 1) := by decide +kernel
theorem dX7_keep_43 : decode cX7_keep 43 = .ok (.iconst 1, 1) := by decide +kernel
theorem dX7_keep_44 : decode cX7_keep 44 = .ok (.bastore, 1) := by decide +kernel
theorem dX7_keep_45 : decode cX7_keep 45 = .ok (.iload_n 2, 1) := by decide +kernel
theorem dX7_keep_46 : decode cX7_keep 46 = .ok (.ireturn, 1) := by decide +kernel
set_option maxRecDepth 20000 in
theorem ggX7_back_X7_in : GoodIn wsX7_back wsX7_in := goodIn_r _ [6] (by decide +kernel) (by decide +kernel)
set_option maxRecDepth 20000 in
theorem gX7_back_X7_in : GoodIn wsX7_back (va_wsS RX7 46 yX7_in wsX7_in) := goodIn_app (goodIn_of _ (by decide +kernel)) ggX7_back_X7_in
set_option maxRecDepth 20000 in
theorem ggX7_back_X7_copies : GoodIn wsX7_back wsX7_copies := goodIn_r _ [10, 2, 11, 12, 13, 14, 15, 16, 17, 18, 19, 20, 21, 22, 23, 24, 25, 26, 27, 28, 29, 30, 31, 32, 33, 34, 35, 36, 37, 38, 39, 40, 41, 42, 43, 44] (by decide +kernel) (by decide +kernel)
set_option maxRecDepth 20000 in
theorem gX7_back_X7_copies : GoodIn wsX7_back (wsV RX7 205 RX7 yX7_copies wsX7_copies) := goodIn_app (goodIn_of _ (by decide +kernel)) ggX7_back_X7_copies
theorem dX7_back_0 : decode cX7_back 0 = .ok (.iload_n 1, 1) := by decide +kernel
theorem dX7_back_1 : decode cX7_back 1 = .ok (.i2l, 1) := by decide +kernel
theorem dX7_back_2 : decode cX7_back 2 = .ok (.lconst 0, 1) := by decide +kernel
theorem dX7_back_3 : decode cX7_back 3 = .ok (.lconst 1, 1) := by decide +kernel
theorem dX7_back_4 : decode cX7_back 4 = .ok (.invokestatic 46, 3) := by decide +kernel
theorem dX7_back_7 : decode cX7_back 7 = .ok (.ifCond .ne 5, 3) := by decide +kernel
theorem dX7_back_10 : decode cX7_back 10 = .ok (.iconst (-1), 1) := by decide +kernel
theorem dX7_back_11 : decode cX7_back 11 = .ok (.ireturn, 1) := by decide +kernel
theorem dX7_back_12 : decode cX7_back 12 = .ok (.aload_n 0, 1) := by decide +kernel
theorem dX7_back_13 : decode cX7_back 13 = .ok (.getfield 31, 3) := by decide +kernel
theorem dX7_back_16 : decode cX7_back 16 = .ok (.iload_n 1, 1) := by decide +kernel
theorem dX7_back_17 : decode cX7_back 17 = .ok (.baload, 1) := by decide +kernel
theorem dX7_back_18 : decode cX7_back 18 = .ok (.ifCond .ne 6, 3) := by decide +kernel
theorem dX7_back_21 : decode cX7_back 21 = .ok (.bipush (-2), 2) := by decide +kernel
theorem dX7_back_23 : decode cX7_back 23 = .ok (.ireturn, 1) := by decide +kernel
theorem dX7_back_24 : decode cX7_back 24 = .ok (.aload_n 0, 1) := by decide +kernel
theorem dX7_back_25 : decode cX7_back 25 = .ok (.bipush 60, 2) := by decide +kernel
theorem dX7_back_27 : decode cX7_back 27 = .ok (.iload_n 1, 1) := by decide +kernel
theorem dX7_back_28 : decode cX7_back 28 = .ok (.iconst 1, 1) := by decide +kernel
theorem dX7_back_29 : decode cX7_back 29 = .ok (.iadd, 1) := by decide +kernel
theorem dX7_back_30 : decode cX7_back 30 = .ok (.imul, 1) := by decide +kernel
theorem dX7_back_31 : decode cX7_back 31 = .ok (.iconst 0, 1) := by decide +kernel
theorem dX7_back_32 : decode cX7_back 32 = .ok (.invokevirtual 205, 3) := by decide +kernel
theorem dX7_back_35 : decode cX7_back 35 = .ok (.aload_n 0, 1) := by decide +kernel
theorem dX7_back_36 : decode cX7_back 36 = .ok (.getfield 7, 3) := by decide +kernel
theorem dX7_back_39 : decode cX7_back 39 = .ok (.bipush 34, 2) := by decide +kernel
theorem dX7_back_41 : decode cX7_back 41 = .ok (.iaload, 1) := by decide +kernel
theorem dX7_back_42 : decode cX7_back 42 = .ok (.ireturn, 1) := by decide +kernel
set_option maxRecDepth 20000 in
theorem ggX7_sheet_X7_in : GoodIn wsX7_sheet wsX7_in := goodIn_r _ [9] (by decide +kernel) (by decide +kernel)
set_option maxRecDepth 20000 in
theorem gX7_sheet_X7_in : GoodIn wsX7_sheet (va_wsS RX7 46 yX7_in wsX7_in) := goodIn_app (goodIn_of _ (by decide +kernel)) ggX7_sheet_X7_in
theorem dX7_sheet_0 : decode cX7_sheet 0 = .ok (.iload_n 1, 1) := by decide +kernel
theorem dX7_sheet_1 : decode cX7_sheet 1 = .ok (.i2l, 1) := by decide +kernel
theorem dX7_sheet_2 : decode cX7_sheet 2 = .ok (.lconst 0, 1) := by decide +kernel
theorem dX7_sheet_3 : decode cX7_sheet 3 = .ok (.ldc2_w 169, 3) := by decide +kernel
theorem dX7_sheet_6 : decode cX7_sheet 6 = .ok (.invokestatic 46, 3) := by decide +kernel
theorem dX7_sheet_9 : decode cX7_sheet 9 = .ok (.ifCond .eq 21, 3) := by decide +kernel
theorem dX7_sheet_12 : decode cX7_sheet 12 = .ok (.iload_n 2, 1) := by decide +kernel
theorem dX7_sheet_13 : decode cX7_sheet 13 = .ok (.i2l, 1) := by decide +kernel
theorem dX7_sheet_14 : decode cX7_sheet 14 = .ok (.lconst 0, 1) := by decide +kernel
theorem dX7_sheet_15 : decode cX7_sheet 15 = .ok (.ldc2_w 217, 3) := by decide +kernel
theorem dX7_sheet_18 : decode cX7_sheet 18 = .ok (.invokestatic 46, 3) := by decide +kernel
theorem dX7_sheet_21 : decode cX7_sheet 21 = .ok (.ifCond .eq 9, 3) := by decide +kernel
theorem dX7_sheet_24 : decode cX7_sheet 24 = .ok (.iload_n 3, 1) := by decide +kernel
theorem dX7_sheet_25 : decode cX7_sheet 25 = .ok (.bipush 40, 2) := by decide +kernel
theorem dX7_sheet_27 : decode cX7_sheet 27 = .ok (.if_icmp .le 5, 3) := by decide +kernel
theorem dX7_sheet_30 : decode cX7_sheet 30 = .ok (.iconst (-1), 1) := by decide +kernel
theorem dX7_sheet_31 : decode cX7_sheet 31 = .ok (.ireturn, 1) := by decide +kernel
theorem dX7_sheet_32 : decode cX7_sheet 32 = .ok (.iload_n 3, 1) := by decide +kernel
theorem dX7_sheet_33 : decode cX7_sheet 33 = .ok (.ifCond .ge 6, 3) := by decide +kernel
theorem dX7_sheet_36 : decode cX7_sheet 36 = .ok (.bipush (-14), 2) := by decide +kernel
theorem dX7_sheet_38 : decode cX7_sheet 38 = .ok (.ireturn, 1) := by decide +kernel
theorem dX7_sheet_39 : decode cX7_sheet 39 = .ok (.aload_n 0, 1) := by decide +kernel
theorem dX7_sheet_40 : decode cX7_sheet 40 = .ok (.getfield 35, 3) := by decide +kernel
theorem dX7_sheet_43 : decode cX7_sheet 43 = .ok (.iload_n 1, 1) := by decide +kernel
theorem dX7_sheet_44 : decode cX7_sheet 44 = .ok (.iload_n 2, 1) := by decide +kernel
theorem dX7_sheet_45 : decode cX7_sheet 45 = .ok (.iastore, 1) := by decide +kernel
theorem dX7_sheet_46 : decode cX7_sheet 46 = .ok (.aload_n 0, 1) := by decide +kernel
theorem dX7_sheet_47 : decode cX7_sheet 47 = .ok (.getfield 38, 3) := by decide +kernel
theorem dX7_sheet_50 : decode cX7_sheet 50 = .ok (.iload_n 1, 1) := by decide +kernel
theorem dX7_sheet_51 : decode cX7_sheet 51 = .ok (.iload_n 3, 1) := by decide +kernel
theorem dX7_sheet_52 : decode cX7_sheet 52 = .ok (.iastore, 1) := by decide +kernel
theorem dX7_sheet_53 : decode cX7_sheet 53 = .ok (.iconst 0, 1) := by decide +kernel
theorem dX7_sheet_54 : decode cX7_sheet 54 = .ok (.istore 4, 2) := by decide +kernel
theorem dX7_sheet_56 : decode cX7_sheet 56 = .ok (.iload 4, 2) := by decide +kernel
theorem dX7_sheet_58 : decode cX7_sheet 58 = .ok (.bipush 40, 2) := by decide +kernel
theorem dX7_sheet_60 : decode cX7_sheet 60 = .ok (.if_icmp .ge 22, 3) := by decide +kernel
theorem dX7_sheet_63 : decode cX7_sheet 63 = .ok (.aload_n 0, 1) := by decide +kernel
theorem dX7_sheet_64 : decode cX7_sheet 64 = .ok (.getfield 41, 3) := by decide +kernel
theorem dX7_sheet_67 : decode cX7_sheet 67 = .ok (.bipush 40, 2) := by decide +kernel
theorem dX7_sheet_69 : decode cX7_sheet 69 = .ok (.iload_n 1, 1) := by decide +kernel
theorem dX7_sheet_70 : decode cX7_sheet 70 = .ok (.imul, 1) := by decide +kernel
theorem dX7_sheet_71 : decode cX7_sheet 71 = .ok (.iload 4, 2) := by decide +kernel
theorem dX7_sheet_73 : decode cX7_sheet 73 = .ok (.iadd, 1) := by decide +kernel
theorem dX7_sheet_74 : decode cX7_sheet 74 = .ok (.iconst 0, 1) := by decide +kernel
theorem dX7_sheet_75 : decode cX7_sheet 75 = .ok (.iastore, 1) := by decide +kernel
theorem dX7_sheet_76 : decode cX7_sheet 76 = .ok (.iinc 4 1, 3) := by decide +kernel
theorem dX7_sheet_79 : decode cX7_sheet 79 = .ok (.goto (-23), 3) := by decide +kernel
theorem dX7_sheet_82 : decode cX7_sheet 82 = .ok (.iconst 1, 1) := by decide +kernel
theorem dX7_sheet_83 : decode cX7_sheet 83 = .ok (.ireturn, 1) := by decide +kernel
set_option maxRecDepth 20000 in
theorem ggX7_lay_X7_in : GoodIn wsX7_lay wsX7_in := goodIn_r _ [8] (by decide +kernel) (by decide +kernel)
set_option maxRecDepth 20000 in
theorem gX7_lay_X7_in : GoodIn wsX7_lay (va_wsS RX7 46 yX7_in wsX7_in) := goodIn_app (goodIn_of _ (by decide +kernel)) ggX7_lay_X7_in
theorem dX7_lay_0 : decode cX7_lay 0 = .ok (.iload_n 1, 1) := by decide +kernel
theorem dX7_lay_1 : decode cX7_lay 1 = .ok (.i2l, 1) := by decide +kernel
theorem dX7_lay_2 : decode cX7_lay 2 = .ok (.lconst 0, 1) := by decide +kernel
theorem dX7_lay_3 : decode cX7_lay 3 = .ok (.ldc2_w 169, 3) := by decide +kernel
theorem dX7_lay_6 : decode cX7_lay 6 = .ok (.invokestatic 46, 3) := by decide +kernel
theorem dX7_lay_9 : decode cX7_lay 9 = .ok (.ifCond .ne 5, 3) := by decide +kernel
theorem dX7_lay_12 : decode cX7_lay 12 = .ok (.iconst (-1), 1) := by decide +kernel
theorem dX7_lay_13 : decode cX7_lay 13 = .ok (.ireturn, 1) := by decide +kernel
theorem dX7_lay_14 : decode cX7_lay 14 = .ok (.aload_n 0, 1) := by decide +kernel
theorem dX7_lay_15 : decode cX7_lay 15 = .ok (.getfield 35, 3) := by decide +kernel
theorem dX7_lay_18 : decode cX7_lay 18 = .ok (.iload_n 1, 1) := by decide +kernel
theorem dX7_lay_19 : decode cX7_lay 19 = .ok (.iaload, 1) := by decide +kernel
theorem dX7_lay_20 : decode cX7_lay 20 = .ok (.bipush (-4), 2) := by decide +kernel
theorem dX7_lay_22 : decode cX7_lay 22 = .ok (.if_icmp .ne 6, 3) := by decide +kernel
theorem dX7_lay_25 : decode cX7_lay 25 = .ok (.bipush (-11), 2) := by decide +kernel
theorem dX7_lay_27 : decode cX7_lay 27 = .ok (.ireturn, 1) := by decide +kernel
theorem dX7_lay_28 : decode cX7_lay 28 = .ok (.iload_n 2, 1) := by decide +kernel
theorem dX7_lay_29 : decode cX7_lay 29 = .ok (.i2l, 1) := by decide +kernel
theorem dX7_lay_30 : decode cX7_lay 30 = .ok (.lconst 0, 1) := by decide +kernel
theorem dX7_lay_31 : decode cX7_lay 31 = .ok (.aload_n 0, 1) := by decide +kernel
theorem dX7_lay_32 : decode cX7_lay 32 = .ok (.getfield 38, 3) := by decide +kernel
theorem dX7_lay_35 : decode cX7_lay 35 = .ok (.iload_n 1, 1) := by decide +kernel
theorem dX7_lay_36 : decode cX7_lay 36 = .ok (.iaload, 1) := by decide +kernel
theorem dX7_lay_37 : decode cX7_lay 37 = .ok (.iconst 1, 1) := by decide +kernel
theorem dX7_lay_38 : decode cX7_lay 38 = .ok (.isub, 1) := by decide +kernel
theorem dX7_lay_39 : decode cX7_lay 39 = .ok (.i2l, 1) := by decide +kernel
theorem dX7_lay_40 : decode cX7_lay 40 = .ok (.invokestatic 46, 3) := by decide +kernel
theorem dX7_lay_43 : decode cX7_lay 43 = .ok (.ifCond .ne 6, 3) := by decide +kernel
theorem dX7_lay_46 : decode cX7_lay 46 = .ok (.bipush (-12), 2) := by decide +kernel
theorem dX7_lay_48 : decode cX7_lay 48 = .ok (.ireturn, 1) := by decide +kernel
theorem dX7_lay_49 : decode cX7_lay 49 = .ok (.aload_n 0, 1) := by decide +kernel
theorem dX7_lay_50 : decode cX7_lay 50 = .ok (.getfield 41, 3) := by decide +kernel
theorem dX7_lay_53 : decode cX7_lay 53 = .ok (.bipush 40, 2) := by decide +kernel
theorem dX7_lay_55 : decode cX7_lay 55 = .ok (.iload_n 1, 1) := by decide +kernel
theorem dX7_lay_56 : decode cX7_lay 56 = .ok (.imul, 1) := by decide +kernel
theorem dX7_lay_57 : decode cX7_lay 57 = .ok (.iload_n 2, 1) := by decide +kernel
theorem dX7_lay_58 : decode cX7_lay 58 = .ok (.iadd, 1) := by decide +kernel
theorem dX7_lay_59 : decode cX7_lay 59 = .ok (.aload_n 0, 1) := by decide +kernel
theorem dX7_lay_60 : decode cX7_lay 60 = .ok (.getfield 35, 3) := by decide +kernel
theorem dX7_lay_63 : decode cX7_lay 63 = .ok (.iload_n 1, 1) := by decide +kernel
theorem dX7_lay_64 : decode cX7_lay 64 = .ok (.iaload, 1) := by decide +kernel
theorem dX7_lay_65 : decode cX7_lay 65 = .ok (.ifCond .ne 13, 3) := by decide +kernel
theorem dX7_lay_68 : decode cX7_lay 68 = .ok (.iload_n 3, 1) := by decide +kernel
theorem dX7_lay_69 : decode cX7_lay 69 = .ok (.bipush 24, 2) := by decide +kernel
theorem dX7_lay_71 : decode cX7_lay 71 = .ok (.ishl, 1) := by decide +kernel
theorem dX7_lay_72 : decode cX7_lay 72 = .ok (.bipush 24, 2) := by decide +kernel
theorem dX7_lay_74 : decode cX7_lay 74 = .ok (.ishr, 1) := by decide +kernel
theorem dX7_lay_75 : decode cX7_lay 75 = .ok (.goto 24, 3) := by decide +kernel
theorem dX7_lay_78 : decode cX7_lay 78 = .ok (.aload_n 0, 1) := by decide +kernel
theorem dX7_lay_79 : decode cX7_lay 79 = .ok (.getfield 35, 3) := by decide +kernel
theorem dX7_lay_82 : decode cX7_lay 82 = .ok (.iload_n 1, 1) := by decide +kernel
theorem dX7_lay_83 : decode cX7_lay 83 = .ok (.iaload, 1) := by decide +kernel
theorem dX7_lay_84 : decode cX7_lay 84 = .ok (.iconst 1, 1) := by decide +kernel
theorem dX7_lay_85 : decode cX7_lay 85 = .ok (.if_icmp .ne 13, 3) := by decide +kernel
theorem dX7_lay_88 : decode cX7_lay 88 = .ok (.iload_n 3, 1) := by decide +kernel
theorem dX7_lay_89 : decode cX7_lay 89 = .ok (.bipush 16, 2) := by decide +kernel
theorem dX7_lay_91 : decode cX7_lay 91 = .ok (.ishl, 1) := by decide +kernel
theorem dX7_lay_92 : decode cX7_lay 92 = .ok (.bipush 16, 2) := by decide +kernel
theorem dX7_lay_94 : decode cX7_lay 94 = .ok (.ishr, 1) := by decide +kernel
theorem dX7_lay_95 : decode cX7_lay 95 = .ok (.goto 4, 3) := by decide +kernel
theorem dX7_lay_98 : decode cX7_lay 98 = .ok (.iload_n 3, 1) := by decide +kernel
theorem dX7_lay_99 : decode cX7_lay 99 = .ok (.iastore, 1) := by decide +kernel
theorem dX7_lay_100 : decode cX7_lay 100 = .ok (.iconst 1, 1) := by decide +kernel
theorem dX7_lay_101 : decode cX7_lay 101 = .ok (.ireturn, 1) := by decide +kernel
set_option maxRecDepth 20000 in
theorem ggX7_read_X7_in : GoodIn wsX7_read wsX7_in := goodIn_r _ [11] (by decide +kernel) (by decide +kernel)
set_option maxRecDepth 20000 in
theorem gX7_read_X7_in : GoodIn wsX7_read (va_wsS RX7 46 yX7_in wsX7_in) := goodIn_app (goodIn_of _ (by decide +kernel)) ggX7_read_X7_in
set_option maxRecDepth 20000 in
theorem ggX7_read_X7_copies : GoodIn wsX7_read wsX7_copies := goodIn_r _ [15, 16, 51, 52, 53, 54, 55, 56, 57, 58, 59, 60, 61, 62, 63, 64, 65, 66, 67, 68, 69, 70, 71, 72, 73, 74, 75, 76, 77, 78, 79, 80, 81, 82, 83, 84] (by decide +kernel) (by decide +kernel)
set_option maxRecDepth 20000 in
theorem gX7_read_X7_copies : GoodIn wsX7_read (wsV RX7 205 RX7 yX7_copies wsX7_copies) := goodIn_app (goodIn_of _ (by decide +kernel)) ggX7_read_X7_copies
set_option maxRecDepth 20000 in
theorem ggX7_read_X7_buys : GoodIn wsX7_read wsX7_buys := goodIn_r _ [20, 21, 22, 23, 10, 24, 25, 26, 27, 28, 29, 8, 9, 11, 30, 31, 32, 33, 34, 35, 36, 37, 38, 16, 39, 40, 41, 42, 43, 44, 45, 46, 47, 48, 49, 50, 51, 52, 53, 54, 55, 56, 57, 58, 59, 60, 61, 62, 63, 64, 65, 66, 67, 68, 69, 70, 71, 72, 73, 74, 75, 76, 77, 78, 79, 80, 81, 82, 83, 84] (by decide +kernel) (by decide +kernel)
set_option maxRecDepth 20000 in
theorem gX7_read_X7_buys : GoodIn wsX7_read (wsV RX7 195 RX7 yX7_buys wsX7_buys) := goodIn_app (goodIn_of _ (by decide +kernel)) ggX7_read_X7_buys
theorem dX7_read_0 : decode cX7_read 0 = .ok (.iload_n 1, 1) := by decide +kernel
theorem dX7_read_1 : decode cX7_read 1 = .ok (.i2l, 1) := by decide +kernel
theorem dX7_read_2 : decode cX7_read 2 = .ok (.lconst 0, 1) := by decide +kernel
theorem dX7_read_3 : decode cX7_read 3 = .ok (.ldc2_w 169, 3) := by decide +kernel
theorem dX7_read_6 : decode cX7_read 6 = .ok (.invokestatic 46, 3) := by decide +kernel
theorem dX7_read_9 : decode cX7_read 9 = .ok (.ifCond .eq 28, 3) := by decide +kernel
theorem dX7_read_12 : decode cX7_read 12 = .ok (.iload_n 2, 1) := by decide +kernel
theorem dX7_read_13 : decode cX7_read 13 = .ok (.i2l, 1) := by decide +kernel
theorem dX7_read_14 : decode cX7_read 14 = .ok (.lconst 0, 1) := by decide +kernel
theorem dX7_read_15 : decode cX7_read 15 = .ok (.ldc2_w 217, 3) := by decide +kernel
theorem dX7_read_18 : decode cX7_read 18 = .ok (.invokestatic 46, 3) := by decide +kernel
theorem dX7_read_21 : decode cX7_read 21 = .ok (.ifCond .eq 16, 3) := by decide +kernel
theorem dX7_read_24 : decode cX7_read 24 = .ok (.iload 4, 2) := by decide +kernel
theorem dX7_read_26 : decode cX7_read 26 = .ok (.i2l, 1) := by decide +kernel
theorem dX7_read_27 : decode cX7_read 27 = .ok (.lconst 0, 1) := by decide +kernel
theorem dX7_read_28 : decode cX7_read 28 = .ok (.ldc2_w 255, 3) := by decide +kernel
theorem dX7_read_31 : decode cX7_read 31 = .ok (.invokestatic 46, 3) := by decide +kernel
theorem dX7_read_34 : decode cX7_read 34 = .ok (.ifCond .ne 5, 3) := by decide +kernel
theorem dX7_read_37 : decode cX7_read 37 = .ok (.iconst (-1), 1) := by decide +kernel
theorem dX7_read_38 : decode cX7_read 38 = .ok (.ireturn, 1) := by decide +kernel
theorem dX7_read_39 : decode cX7_read 39 = .ok (.aload_n 0, 1) := by decide +kernel
theorem dX7_read_40 : decode cX7_read 40 = .ok (.iconst 0, 1) := by decide +kernel
theorem dX7_read_41 : decode cX7_read 41 = .ok (.sipush 180, 3) := by decide +kernel
theorem dX7_read_44 : decode cX7_read 44 = .ok (.invokevirtual 205, 3) := by decide +kernel
theorem dX7_read_47 : decode cX7_read 47 = .ok (.iconst 0, 1) := by decide +kernel
theorem dX7_read_48 : decode cX7_read 48 = .ok (.istore 5, 2) := by decide +kernel
theorem dX7_read_50 : decode cX7_read 50 = .ok (.iconst 0, 1) := by decide +kernel
theorem dX7_read_51 : decode cX7_read 51 = .ok (.istore 6, 2) := by decide +kernel
theorem dX7_read_53 : decode cX7_read 53 = .ok (.iconst 0, 1) := by decide +kernel
theorem dX7_read_54 : decode cX7_read 54 = .ok (.istore 7, 2) := by decide +kernel
theorem dX7_read_56 : decode cX7_read 56 = .ok (.iload 7, 2) := by decide +kernel
theorem dX7_read_58 : decode cX7_read 58 = .ok (.iconst 4, 1) := by decide +kernel
theorem dX7_read_59 : decode cX7_read 59 = .ok (.iload 4, 2) := by decide +kernel
theorem dX7_read_61 : decode cX7_read 61 = .ok (.imul, 1) := by decide +kernel
theorem dX7_read_62 : decode cX7_read 62 = .ok (.if_icmp .ge 154, 3) := by decide +kernel
theorem dX7_read_65 : decode cX7_read 65 = .ok (.iload 5, 2) := by decide +kernel
theorem dX7_read_67 : decode cX7_read 67 = .ok (.ifCond .ne 149, 3) := by decide +kernel
theorem dX7_read_70 : decode cX7_read 70 = .ok (.aload_n 0, 1) := by decide +kernel
theorem dX7_read_71 : decode cX7_read 71 = .ok (.getfield 35, 3) := by decide +kernel
theorem dX7_read_74 : decode cX7_read 74 = .ok (.iload_n 1, 1) := by decide +kernel
theorem dX7_read_75 : decode cX7_read 75 = .ok (.iaload, 1) := by decide +kernel
theorem dX7_read_76 : decode cX7_read 76 = .ok (.bipush (-4), 2) := by decide +kernel
theorem dX7_read_78 : decode cX7_read 78 = .ok (.if_icmp .ne 7, 3) := by decide +kernel
theorem dX7_read_81 : decode cX7_read 81 = .ok (.iconst 1, 1) := by decide +kernel
theorem dX7_read_82 : decode cX7_read 82 = .ok (.goto 44, 3) := by decide +kernel
theorem dX7_read_85 : decode cX7_read 85 = .ok (.aload_n 0, 1) := by decide +kernel
theorem dX7_read_86 : decode cX7_read 86 = .ok (.getfield 35, 3) := by decide +kernel
theorem dX7_read_89 : decode cX7_read 89 = .ok (.iload_n 1, 1) := by decide +kernel
theorem dX7_read_90 : decode cX7_read 90 = .ok (.iaload, 1) := by decide +kernel
theorem dX7_read_91 : decode cX7_read 91 = .ok (.iload_n 2, 1) := by decide +kernel
theorem dX7_read_92 : decode cX7_read 92 = .ok (.if_icmp .eq 7, 3) := by decide +kernel
theorem dX7_read_95 : decode cX7_read 95 = .ok (.iconst 3, 1) := by decide +kernel
theorem dX7_read_96 : decode cX7_read 96 = .ok (.goto 30, 3) := by decide +kernel
theorem dX7_read_99 : decode cX7_read 99 = .ok (.iload_n 3, 1) := by decide +kernel
theorem dX7_read_100 : decode cX7_read 100 = .ok (.i2l, 1) := by decide +kernel
theorem dX7_read_101 : decode cX7_read 101 = .ok (.iload 7, 2) := by decide +kernel
theorem dX7_read_103 : decode cX7_read 103 = .ok (.i2l, 1) := by decide +kernel
theorem dX7_read_104 : decode cX7_read 104 = .ok (.ladd, 1) := by decide +kernel
theorem dX7_read_105 : decode cX7_read 105 = .ok (.lconst 0, 1) := by decide +kernel
theorem dX7_read_106 : decode cX7_read 106 = .ok (.aload_n 0, 1) := by decide +kernel
theorem dX7_read_107 : decode cX7_read 107 = .ok (.getfield 38, 3) := by decide +kernel
theorem dX7_read_110 : decode cX7_read 110 = .ok (.iload_n 1, 1) := by decide +kernel
theorem dX7_read_111 : decode cX7_read 111 = .ok (.iaload, 1) := by decide +kernel
theorem dX7_read_112 : decode cX7_read 112 = .ok (.iconst 1, 1) := by decide +kernel
theorem dX7_read_113 : decode cX7_read 113 = .ok (.isub, 1) := by decide +kernel
theorem dX7_read_114 : decode cX7_read 114 = .ok (.i2l, 1) := by decide +kernel
theorem dX7_read_115 : decode cX7_read 115 = .ok (.invokestatic 46, 3) := by decide +kernel
theorem dX7_read_118 : decode cX7_read 118 = .ok (.ifCond .ne 7, 3) := by decide +kernel
theorem dX7_read_121 : decode cX7_read 121 = .ok (.iconst 2, 1) := by decide +kernel
theorem dX7_read_122 : decode cX7_read 122 = .ok (.goto 4, 3) := by decide +kernel
theorem dX7_read_125 : decode cX7_read 125 = .ok (.iconst 0, 1) := by decide +kernel
theorem dX7_read_126 : decode cX7_read 126 = .ok (.istore 5, 2) := by decide +kernel
theorem dX7_read_128 : decode cX7_read 128 = .ok (.iload 5, 2) := by decide +kernel
theorem dX7_read_130 : decode cX7_read 130 = .ok (.ifCond .ne 80, 3) := by decide +kernel
theorem dX7_read_133 : decode cX7_read 133 = .ok (.iload 7, 2) := by decide +kernel
theorem dX7_read_135 : decode cX7_read 135 = .ok (.iconst 4, 1) := by decide +kernel
theorem dX7_read_136 : decode cX7_read 136 = .ok (.irem, 1) := by decide +kernel
theorem dX7_read_137 : decode cX7_read 137 = .ok (.iconst 3, 1) := by decide +kernel
theorem dX7_read_138 : decode cX7_read 138 = .ok (.if_icmp .ne 72, 3) := by decide +kernel
theorem dX7_read_141 : decode cX7_read 141 = .ok (.bipush 40, 2) := by decide +kernel
theorem dX7_read_143 : decode cX7_read 143 = .ok (.iload_n 1, 1) := by decide +kernel
theorem dX7_read_144 : decode cX7_read 144 = .ok (.imul, 1) := by decide +kernel
theorem dX7_read_145 : decode cX7_read 145 = .ok (.iload_n 3, 1) := by decide +kernel
theorem dX7_read_146 : decode cX7_read 146 = .ok (.iadd, 1) := by decide +kernel
theorem dX7_read_147 : decode cX7_read 147 = .ok (.iload 7, 2) := by decide +kernel
theorem dX7_read_149 : decode cX7_read 149 = .ok (.iadd, 1) := by decide +kernel
theorem dX7_read_150 : decode cX7_read 150 = .ok (.istore 8, 2) := by decide +kernel
theorem dX7_read_152 : decode cX7_read 152 = .ok (.aload_n 0, 1) := by decide +kernel
theorem dX7_read_153 : decode cX7_read 153 = .ok (.aload_n 0, 1) := by decide +kernel
theorem dX7_read_154 : decode cX7_read 154 = .ok (.getfield 41, 3) := by decide +kernel
theorem dX7_read_157 : decode cX7_read 157 = .ok (.iload 8, 2) := by decide +kernel
theorem dX7_read_159 : decode cX7_read 159 = .ok (.iconst 3, 1) := by decide +kernel
theorem dX7_read_160 : decode cX7_read 160 = .ok (.isub, 1) := by decide +kernel
theorem dX7_read_161 : decode cX7_read 161 = .ok (.iaload, 1) := by decide +kernel
theorem dX7_read_162 : decode cX7_read 162 = .ok (.aload_n 0, 1) := by decide +kernel
theorem dX7_read_163 : decode cX7_read 163 = .ok (.getfield 41, 3) := by decide +kernel
theorem dX7_read_166 : decode cX7_read 166 = .ok (.iload 8, 2) := by decide +kernel
theorem dX7_read_168 : decode cX7_read 168 = .ok (.iconst 2, 1) := by decide +kernel
theorem dX7_read_169 : decode cX7_read 169 = .ok (.isub, 1) := by decide +kernel
theorem dX7_read_170 : decode cX7_read 170 = .ok (.iaload, 1) := by decide +kernel
theorem dX7_read_171 : decode cX7_read 171 = .ok (.aload_n 0, 1) := by decide +kernel
theorem dX7_read_172 : decode cX7_read 172 = .ok (.getfield 41, 3) := by decide +kernel
theorem dX7_read_175 : decode cX7_read 175 = .ok (.iload 8, 2) := by decide +kernel
theorem dX7_read_177 : decode cX7_read 177 = .ok (.iconst 1, 1) := by decide +kernel
theorem dX7_read_178 : decode cX7_read 178 = .ok (.isub, 1) := by decide +kernel
theorem dX7_read_179 : decode cX7_read 179 = .ok (.iaload, 1) := by decide +kernel
theorem dX7_read_180 : decode cX7_read 180 = .ok (.aload_n 0, 1) := by decide +kernel
theorem dX7_read_181 : decode cX7_read 181 = .ok (.getfield 41, 3) := by decide +kernel
theorem dX7_read_184 : decode cX7_read 184 = .ok (.iload 8, 2) := by decide +kernel
theorem dX7_read_186 : decode cX7_read 186 = .ok (.iaload, 1) := by decide +kernel
theorem dX7_read_187 : decode cX7_read 187 = .ok (.invokevirtual 195, 3) := by decide +kernel
theorem dX7_read_190 : decode cX7_read 190 = .ok (.ifCond .ge 17, 3) := by decide +kernel
theorem dX7_read_193 : decode cX7_read 193 = .ok (.aload_n 0, 1) := by decide +kernel
theorem dX7_read_194 : decode cX7_read 194 = .ok (.sipush 180, 3) := by decide +kernel
theorem dX7_read_197 : decode cX7_read 197 = .ok (.iconst 0, 1) := by decide +kernel
theorem dX7_read_198 : decode cX7_read 198 = .ok (.invokevirtual 205, 3) := by decide +kernel
theorem dX7_read_201 : decode cX7_read 201 = .ok (.bipush (-20), 2) := by decide +kernel
theorem dX7_read_203 : decode cX7_read 203 = .ok (.iload 6, 2) := by decide +kernel
theorem dX7_read_205 : decode cX7_read 205 = .ok (.isub, 1) := by decide +kernel
theorem dX7_read_206 : decode cX7_read 206 = .ok (.ireturn, 1) := by decide +kernel
theorem dX7_read_207 : decode cX7_read 207 = .ok (.iinc 6 1, 3) := by decide +kernel
theorem dX7_read_210 : decode cX7_read 210 = .ok (.iinc 7 1, 3) := by decide +kernel
theorem dX7_read_213 : decode cX7_read 213 = .ok (.goto (-157), 3) := by decide +kernel
theorem dX7_read_216 : decode cX7_read 216 = .ok (.aload_n 0, 1) := by decide +kernel
theorem dX7_read_217 : decode cX7_read 217 = .ok (.iload 5, 2) := by decide +kernel
theorem dX7_read_219 : decode cX7_read 219 = .ok (.putfield 290, 3) := by decide +kernel
theorem dX7_read_222 : decode cX7_read 222 = .ok (.iload 6, 2) := by decide +kernel
theorem dX7_read_224 : decode cX7_read 224 = .ok (.ireturn, 1) := by decide +kernel
theorem dX7_torn_0 : decode cX7_torn 0 = .ok (.aload_n 0, 1) := by decide +kernel
theorem dX7_torn_1 : decode cX7_torn 1 = .ok (.getfield 290, 3) := by decide +kernel
theorem dX7_torn_4 : decode cX7_torn 4 = .ok (.ireturn, 1) := by decide +kernel
set_option maxRecDepth 20000 in
theorem ggX7_count_X7_feathersOn : GoodIn wsX7_count wsX7_feathersOn := goodIn_r _ [12, 13, 14, 15, 11, 16, 2, 17, 18, 19, 20, 21, 22, 23, 24, 25, 26, 27, 28, 29, 30, 31, 32, 33, 34, 35, 36, 37, 38, 39, 40, 41, 42, 43, 44, 45, 46, 47, 48, 49, 50] (by decide +kernel) (by decide +kernel)
set_option maxRecDepth 20000 in
theorem gX7_count_X7_feathersOn : GoodIn wsX7_count (wsV RX7 139 RX7 yX7_feathersOn wsX7_feathersOn) := goodIn_app (goodIn_of _ (by decide +kernel)) ggX7_count_X7_feathersOn
theorem dX7_count_0 : decode cX7_count 0 = .ok (.iconst 0, 1) := by decide +kernel
theorem dX7_count_1 : decode cX7_count 1 = .ok (.istore_n 2, 1) := by decide +kernel
theorem dX7_count_2 : decode cX7_count 2 = .ok (.iconst 0, 1) := by decide +kernel
theorem dX7_count_3 : decode cX7_count 3 = .ok (.istore_n 3, 1) := by decide +kernel
theorem dX7_count_4 : decode cX7_count 4 = .ok (.iconst 0, 1) := by decide +kernel
theorem dX7_count_5 : decode cX7_count 5 = .ok (.istore 4, 2) := by decide +kernel
theorem dX7_count_7 : decode cX7_count 7 = .ok (.iload 4, 2) := by decide +kernel
theorem dX7_count_9 : decode cX7_count 9 = .ok (.aload_n 0, 1) := by decide +kernel
theorem dX7_count_10 : decode cX7_count 10 = .ok (.getfield 128, 3) := by decide +kernel
theorem dX7_count_13 : decode cX7_count 13 = .ok (.if_icmp .ge 19, 3) := by decide +kernel
theorem dX7_count_16 : decode cX7_count 16 = .ok (.iload_n 2, 1) := by decide +kernel
theorem dX7_count_17 : decode cX7_count 17 = .ok (.aload_n 0, 1) := by decide +kernel
theorem dX7_count_18 : decode cX7_count 18 = .ok (.iconst 0, 1) := by decide +kernel
theorem dX7_count_19 : decode cX7_count 19 = .ok (.iload 4, 2) := by decide +kernel
theorem dX7_count_21 : decode cX7_count 21 = .ok (.invokevirtual 139, 3) := by decide +kernel
theorem dX7_count_24 : decode cX7_count 24 = .ok (.iadd, 1) := by decide +kernel
theorem dX7_count_25 : decode cX7_count 25 = .ok (.istore_n 2, 1) := by decide +kernel
theorem dX7_count_26 : decode cX7_count 26 = .ok (.iinc 4 1, 3) := by decide +kernel
theorem dX7_count_29 : decode cX7_count 29 = .ok (.goto (-22), 3) := by decide +kernel
theorem dX7_count_32 : decode cX7_count 32 = .ok (.iconst 0, 1) := by decide +kernel
theorem dX7_count_33 : decode cX7_count 33 = .ok (.istore 4, 2) := by decide +kernel
theorem dX7_count_35 : decode cX7_count 35 = .ok (.iload 4, 2) := by decide +kernel
theorem dX7_count_37 : decode cX7_count 37 = .ok (.aload_n 0, 1) := by decide +kernel
theorem dX7_count_38 : decode cX7_count 38 = .ok (.getfield 7, 3) := by decide +kernel
theorem dX7_count_41 : decode cX7_count 41 = .ok (.bipush 59, 2) := by decide +kernel
theorem dX7_count_43 : decode cX7_count 43 = .ok (.iaload, 1) := by decide +kernel
theorem dX7_count_44 : decode cX7_count 44 = .ok (.if_icmp .ge 26, 3) := by decide +kernel
theorem dX7_count_47 : decode cX7_count 47 = .ok (.iload_n 3, 1) := by decide +kernel
theorem dX7_count_48 : decode cX7_count 48 = .ok (.aload_n 0, 1) := by decide +kernel
theorem dX7_count_49 : decode cX7_count 49 = .ok (.getfield 7, 3) := by decide +kernel
theorem dX7_count_52 : decode cX7_count 52 = .ok (.bipush 35, 2) := by decide +kernel
theorem dX7_count_54 : decode cX7_count 54 = .ok (.iconst 4, 1) := by decide +kernel
theorem dX7_count_55 : decode cX7_count 55 = .ok (.iload 4, 2) := by decide +kernel
theorem dX7_count_57 : decode cX7_count 57 = .ok (.imul, 1) := by decide +kernel
theorem dX7_count_58 : decode cX7_count 58 = .ok (.iadd, 1) := by decide +kernel
theorem dX7_count_59 : decode cX7_count 59 = .ok (.iconst 3, 1) := by decide +kernel
theorem dX7_count_60 : decode cX7_count 60 = .ok (.iadd, 1) := by decide +kernel
theorem dX7_count_61 : decode cX7_count 61 = .ok (.iaload, 1) := by decide +kernel
theorem dX7_count_62 : decode cX7_count 62 = .ok (.iadd, 1) := by decide +kernel
theorem dX7_count_63 : decode cX7_count 63 = .ok (.istore_n 3, 1) := by decide +kernel
theorem dX7_count_64 : decode cX7_count 64 = .ok (.iinc 4 1, 3) := by decide +kernel
theorem dX7_count_67 : decode cX7_count 67 = .ok (.goto (-32), 3) := by decide +kernel
theorem dX7_count_70 : decode cX7_count 70 = .ok (.iload_n 1, 1) := by decide +kernel
theorem dX7_count_71 : decode cX7_count 71 = .ok (.tableswitch 104 0 5 #[37, 42, 72, 77, 100, 102], 37) := by decide +kernel
theorem dX7_count_108 : decode cX7_count 108 = .ok (.aload_n 0, 1) := by decide +kernel
theorem dX7_count_109 : decode cX7_count 109 = .ok (.getfield 131, 3) := by decide +kernel
theorem dX7_count_112 : decode cX7_count 112 = .ok (.ireturn, 1) := by decide +kernel
theorem dX7_count_113 : decode cX7_count 113 = .ok (.aload_n 0, 1) := by decide +kernel
theorem dX7_count_114 : decode cX7_count 114 = .ok (.getfield 31, 3) := by decide +kernel
theorem dX7_count_117 : decode cX7_count 117 = .ok (.iconst 0, 1) := by decide +kernel
theorem dX7_count_118 : decode cX7_count 118 = .ok (.baload, 1) := by decide +kernel
theorem dX7_count_119 : decode cX7_count 119 = .ok (.ifCond .eq 7, 3) := by decide +kernel
theorem dX7_count_122 : decode cX7_count 122 = .ok (.iconst 1, 1) := by decide +kernel
theorem dX7_count_123 : decode cX7_count 123 = .ok (.goto 4, 3) := by decide +kernel
theorem dX7_count_126 : decode cX7_count 126 = .ok (.iconst 0, 1) := by decide +kernel
theorem dX7_count_127 : decode cX7_count 127 = .ok (.aload_n 0, 1) := by decide +kernel
theorem dX7_count_128 : decode cX7_count 128 = .ok (.getfield 31, 3) := by decide +kernel
theorem dX7_count_131 : decode cX7_count 131 = .ok (.iconst 1, 1) := by decide +kernel
theorem dX7_count_132 : decode cX7_count 132 = .ok (.baload, 1) := by decide +kernel
theorem dX7_count_133 : decode cX7_count 133 = .ok (.ifCond .eq 7, 3) := by decide +kernel
theorem dX7_count_136 : decode cX7_count 136 = .ok (.iconst 1, 1) := by decide +kernel
theorem dX7_count_137 : decode cX7_count 137 = .ok (.goto 4, 3) := by decide +kernel
theorem dX7_count_140 : decode cX7_count 140 = .ok (.iconst 0, 1) := by decide +kernel
theorem dX7_count_141 : decode cX7_count 141 = .ok (.iadd, 1) := by decide +kernel
theorem dX7_count_142 : decode cX7_count 142 = .ok (.ireturn, 1) := by decide +kernel
theorem dX7_count_143 : decode cX7_count 143 = .ok (.aload_n 0, 1) := by decide +kernel
theorem dX7_count_144 : decode cX7_count 144 = .ok (.getfield 50, 3) := by decide +kernel
theorem dX7_count_147 : decode cX7_count 147 = .ok (.ireturn, 1) := by decide +kernel
theorem dX7_count_148 : decode cX7_count 148 = .ok (.aload_n 0, 1) := by decide +kernel
theorem dX7_count_149 : decode cX7_count 149 = .ok (.getfield 35, 3) := by decide +kernel
theorem dX7_count_152 : decode cX7_count 152 = .ok (.iconst 0, 1) := by decide +kernel
theorem dX7_count_153 : decode cX7_count 153 = .ok (.iaload, 1) := by decide +kernel
theorem dX7_count_154 : decode cX7_count 154 = .ok (.bipush (-4), 2) := by decide +kernel
theorem dX7_count_156 : decode cX7_count 156 = .ok (.if_icmp .ne 8, 3) := by decide +kernel
theorem dX7_count_159 : decode cX7_count 159 = .ok (.bipush (-4), 2) := by decide +kernel
theorem dX7_count_161 : decode cX7_count 161 = .ok (.goto 9, 3) := by decide +kernel
theorem dX7_count_164 : decode cX7_count 164 = .ok (.aload_n 0, 1) := by decide +kernel
theorem dX7_count_165 : decode cX7_count 165 = .ok (.getfield 38, 3) := by decide +kernel
theorem dX7_count_168 : decode cX7_count 168 = .ok (.iconst 0, 1) := by decide +kernel
theorem dX7_count_169 : decode cX7_count 169 = .ok (.iaload, 1) := by decide +kernel
theorem dX7_count_170 : decode cX7_count 170 = .ok (.ireturn, 1) := by decide +kernel
theorem dX7_count_171 : decode cX7_count 171 = .ok (.iload_n 2, 1) := by decide +kernel
theorem dX7_count_172 : decode cX7_count 172 = .ok (.ireturn, 1) := by decide +kernel
theorem dX7_count_173 : decode cX7_count 173 = .ok (.iload_n 3, 1) := by decide +kernel
theorem dX7_count_174 : decode cX7_count 174 = .ok (.ireturn, 1) := by decide +kernel
theorem dX7_count_175 : decode cX7_count 175 = .ok (.iconst (-1), 1) := by decide +kernel
theorem dX7_count_176 : decode cX7_count 176 = .ok (.ireturn, 1) := by decide +kernel
theorem dJ6_bitCount_0f7a4_0 : decode cJ6_bitCount_0f7a4 0 = .ok (.iload_n 0, 1) := by decide +kernel
theorem dJ6_bitCount_0f7a4_1 : decode cJ6_bitCount_0f7a4 1 = .ok (.iload_n 0, 1) := by decide +kernel
theorem dJ6_bitCount_0f7a4_2 : decode cJ6_bitCount_0f7a4 2 = .ok (.iconst 1, 1) := by decide +kernel
theorem dJ6_bitCount_0f7a4_3 : decode cJ6_bitCount_0f7a4 3 = .ok (.iushr, 1) := by decide +kernel
theorem dJ6_bitCount_0f7a4_4 : decode cJ6_bitCount_0f7a4 4 = .ok (.ldc_w 265, 3) := by decide +kernel
theorem dJ6_bitCount_0f7a4_7 : decode cJ6_bitCount_0f7a4 7 = .ok (.iand, 1) := by decide +kernel
theorem dJ6_bitCount_0f7a4_8 : decode cJ6_bitCount_0f7a4 8 = .ok (.isub, 1) := by decide +kernel
theorem dJ6_bitCount_0f7a4_9 : decode cJ6_bitCount_0f7a4 9 = .ok (.istore_n 0, 1) := by decide +kernel
theorem dJ6_bitCount_0f7a4_10 : decode cJ6_bitCount_0f7a4 10 = .ok (.iload_n 0, 1) := by decide +kernel
theorem dJ6_bitCount_0f7a4_11 : decode cJ6_bitCount_0f7a4 11 = .ok (.ldc_w 266, 3) := by decide +kernel
theorem dJ6_bitCount_0f7a4_14 : decode cJ6_bitCount_0f7a4 14 = .ok (.iand, 1) := by decide +kernel
theorem dJ6_bitCount_0f7a4_15 : decode cJ6_bitCount_0f7a4 15 = .ok (.iload_n 0, 1) := by decide +kernel
theorem dJ6_bitCount_0f7a4_16 : decode cJ6_bitCount_0f7a4 16 = .ok (.iconst 2, 1) := by decide +kernel
theorem dJ6_bitCount_0f7a4_17 : decode cJ6_bitCount_0f7a4 17 = .ok (.iushr, 1) := by decide +kernel
theorem dJ6_bitCount_0f7a4_18 : decode cJ6_bitCount_0f7a4 18 = .ok (.ldc_w 266, 3) := by decide +kernel
theorem dJ6_bitCount_0f7a4_21 : decode cJ6_bitCount_0f7a4 21 = .ok (.iand, 1) := by decide +kernel
theorem dJ6_bitCount_0f7a4_22 : decode cJ6_bitCount_0f7a4 22 = .ok (.iadd, 1) := by decide +kernel
theorem dJ6_bitCount_0f7a4_23 : decode cJ6_bitCount_0f7a4 23 = .ok (.istore_n 0, 1) := by decide +kernel
theorem dJ6_bitCount_0f7a4_24 : decode cJ6_bitCount_0f7a4 24 = .ok (.iload_n 0, 1) := by decide +kernel
theorem dJ6_bitCount_0f7a4_25 : decode cJ6_bitCount_0f7a4 25 = .ok (.iload_n 0, 1) := by decide +kernel
theorem dJ6_bitCount_0f7a4_26 : decode cJ6_bitCount_0f7a4 26 = .ok (.iconst 4, 1) := by decide +kernel
theorem dJ6_bitCount_0f7a4_27 : decode cJ6_bitCount_0f7a4 27 = .ok (.iushr, 1) := by decide +kernel
theorem dJ6_bitCount_0f7a4_28 : decode cJ6_bitCount_0f7a4 28 = .ok (.iadd, 1) := by decide +kernel
theorem dJ6_bitCount_0f7a4_29 : decode cJ6_bitCount_0f7a4 29 = .ok (.ldc_w 267, 3) := by decide +kernel
theorem dJ6_bitCount_0f7a4_32 : decode cJ6_bitCount_0f7a4 32 = .ok (.iand, 1) := by decide +kernel
theorem dJ6_bitCount_0f7a4_33 : decode cJ6_bitCount_0f7a4 33 = .ok (.istore_n 0, 1) := by decide +kernel
theorem dJ6_bitCount_0f7a4_34 : decode cJ6_bitCount_0f7a4 34 = .ok (.iload_n 0, 1) := by decide +kernel
theorem dJ6_bitCount_0f7a4_35 : decode cJ6_bitCount_0f7a4 35 = .ok (.iload_n 0, 1) := by decide +kernel
theorem dJ6_bitCount_0f7a4_36 : decode cJ6_bitCount_0f7a4 36 = .ok (.bipush 8, 2) := by decide +kernel
theorem dJ6_bitCount_0f7a4_38 : decode cJ6_bitCount_0f7a4 38 = .ok (.iushr, 1) := by decide +kernel
theorem dJ6_bitCount_0f7a4_39 : decode cJ6_bitCount_0f7a4 39 = .ok (.iadd, 1) := by decide +kernel
theorem dJ6_bitCount_0f7a4_40 : decode cJ6_bitCount_0f7a4 40 = .ok (.istore_n 0, 1) := by decide +kernel
theorem dJ6_bitCount_0f7a4_41 : decode cJ6_bitCount_0f7a4 41 = .ok (.iload_n 0, 1) := by decide +kernel
theorem dJ6_bitCount_0f7a4_42 : decode cJ6_bitCount_0f7a4 42 = .ok (.iload_n 0, 1) := by decide +kernel
theorem dJ6_bitCount_0f7a4_43 : decode cJ6_bitCount_0f7a4 43 = .ok (.bipush 16, 2) := by decide +kernel
theorem dJ6_bitCount_0f7a4_45 : decode cJ6_bitCount_0f7a4 45 = .ok (.iushr, 1) := by decide +kernel
theorem dJ6_bitCount_0f7a4_46 : decode cJ6_bitCount_0f7a4 46 = .ok (.iadd, 1) := by decide +kernel
theorem dJ6_bitCount_0f7a4_47 : decode cJ6_bitCount_0f7a4 47 = .ok (.istore_n 0, 1) := by decide +kernel
theorem dJ6_bitCount_0f7a4_48 : decode cJ6_bitCount_0f7a4 48 = .ok (.iload_n 0, 1) := by decide +kernel
theorem dJ6_bitCount_0f7a4_49 : decode cJ6_bitCount_0f7a4 49 = .ok (.bipush 63, 2) := by decide +kernel
theorem dJ6_bitCount_0f7a4_51 : decode cJ6_bitCount_0f7a4 51 = .ok (.iand, 1) := by decide +kernel
theorem dJ6_bitCount_0f7a4_52 : decode cJ6_bitCount_0f7a4 52 = .ok (.ireturn, 1) := by decide +kernel
theorem dJ9_max_7cf53_0 : decode cJ9_max_7cf53 0 = .ok (.iload_n 0, 1) := by decide +kernel
theorem dJ9_max_7cf53_1 : decode cJ9_max_7cf53 1 = .ok (.iload_n 1, 1) := by decide +kernel
theorem dJ9_max_7cf53_2 : decode cJ9_max_7cf53 2 = .ok (.if_icmp .lt 7, 3) := by decide +kernel
theorem dJ9_max_7cf53_5 : decode cJ9_max_7cf53 5 = .ok (.iload_n 0, 1) := by decide +kernel
theorem dJ9_max_7cf53_6 : decode cJ9_max_7cf53 6 = .ok (.goto 4, 3) := by decide +kernel
theorem dJ9_max_7cf53_9 : decode cJ9_max_7cf53 9 = .ok (.iload_n 1, 1) := by decide +kernel
theorem dJ9_max_7cf53_10 : decode cJ9_max_7cf53 10 = .ok (.ireturn, 1) := by decide +kernel
theorem dJ9_max_f86c9_0 : decode cJ9_max_f86c9 0 = .ok (.lload_n 0, 1) := by decide +kernel
theorem dJ9_max_f86c9_1 : decode cJ9_max_f86c9 1 = .ok (.lload_n 2, 1) := by decide +kernel
theorem dJ9_max_f86c9_2 : decode cJ9_max_f86c9 2 = .ok (.lcmp, 1) := by decide +kernel
theorem dJ9_max_f86c9_3 : decode cJ9_max_f86c9 3 = .ok (.ifCond .lt 7, 3) := by decide +kernel
theorem dJ9_max_f86c9_6 : decode cJ9_max_f86c9 6 = .ok (.lload_n 0, 1) := by decide +kernel
theorem dJ9_max_f86c9_7 : decode cJ9_max_f86c9 7 = .ok (.goto 4, 3) := by decide +kernel
theorem dJ9_max_f86c9_10 : decode cJ9_max_f86c9 10 = .ok (.lload_n 2, 1) := by decide +kernel
theorem dJ9_max_f86c9_11 : decode cJ9_max_f86c9 11 = .ok (.lreturn, 1) := by decide +kernel
theorem dJ9_min_7cf53_0 : decode cJ9_min_7cf53 0 = .ok (.iload_n 0, 1) := by decide +kernel
theorem dJ9_min_7cf53_1 : decode cJ9_min_7cf53 1 = .ok (.iload_n 1, 1) := by decide +kernel
theorem dJ9_min_7cf53_2 : decode cJ9_min_7cf53 2 = .ok (.if_icmp .gt 7, 3) := by decide +kernel
theorem dJ9_min_7cf53_5 : decode cJ9_min_7cf53 5 = .ok (.iload_n 0, 1) := by decide +kernel
theorem dJ9_min_7cf53_6 : decode cJ9_min_7cf53 6 = .ok (.goto 4, 3) := by decide +kernel
theorem dJ9_min_7cf53_9 : decode cJ9_min_7cf53 9 = .ok (.iload_n 1, 1) := by decide +kernel
theorem dJ9_min_7cf53_10 : decode cJ9_min_7cf53 10 = .ok (.ireturn, 1) := by decide +kernel
set_option maxRecDepth 20000 in
theorem ggJ0_length_8abf5_J0_coder_7d493 : GoodIn wsJ0_length_8abf5 wsJ0_coder_7d493 := goodIn_r _ [6, 7, 8] (by decide +kernel) (by decide +kernel)
set_option maxRecDepth 20000 in
theorem gJ0_length_8abf5_J0_coder_7d493 : GoodIn wsJ0_length_8abf5 (wsV RJ0 335 RJ0 yJ0_coder_7d493 wsJ0_coder_7d493) := goodIn_app (goodIn_of _ (by decide +kernel)) ggJ0_length_8abf5_J0_coder_7d493
theorem dJ0_length_8abf5_0 : decode cJ0_length_8abf5 0 = .ok (.aload_n 0, 1) := by decide +kernel
theorem dJ0_length_8abf5_1 : decode cJ0_length_8abf5 1 = .ok (.getfield 9, 3) := by decide +kernel
theorem dJ0_length_8abf5_4 : decode cJ0_length_8abf5 4 = .ok (.arraylength, 1) := by decide +kernel
theorem dJ0_length_8abf5_5 : decode cJ0_length_8abf5 5 = .ok (.aload_n 0, 1) := by decide +kernel
theorem dJ0_length_8abf5_6 : decode cJ0_length_8abf5 6 = .ok (.invokevirtual 335, 3) := by decide +kernel
theorem dJ0_length_8abf5_9 : decode cJ0_length_8abf5 9 = .ok (.ishr, 1) := by decide +kernel
theorem dJ0_length_8abf5_10 : decode cJ0_length_8abf5 10 = .ok (.ireturn, 1) := by decide +kernel
set_option maxRecDepth 20000 in
theorem ggJ0_charAt_5068e_J0_isLatin1_aae02 : GoodIn wsJ0_charAt_5068e wsJ0_isLatin1_aae02 := goodIn_r _ [6, 7, 8] (by decide +kernel) (by decide +kernel)
set_option maxRecDepth 20000 in
theorem gJ0_charAt_5068e_J0_isLatin1_aae02 : GoodIn wsJ0_charAt_5068e (wsV RJ0 492 RJ0 yJ0_isLatin1_aae02 wsJ0_isLatin1_aae02) := goodIn_app (goodIn_of _ (by decide +kernel)) ggJ0_charAt_5068e_J0_isLatin1_aae02
set_option maxRecDepth 20000 in
theorem ggJ0_charAt_5068e_J1_charAt_3b067 : GoodIn wsJ0_charAt_5068e wsJ1_charAt_3b067 := goodIn_r _ [12, 13, 14, 5, 15, 16, 17, 18, 19, 20] (by decide +kernel) (by decide +kernel)
set_option maxRecDepth 20000 in
theorem gJ0_charAt_5068e_J1_charAt_3b067 : GoodIn wsJ0_charAt_5068e (va_wsS RJ0 495 yJ1_charAt_3b067 wsJ1_charAt_3b067) := goodIn_app (goodIn_of _ (by decide +kernel)) ggJ0_charAt_5068e_J1_charAt_3b067
set_option maxRecDepth 20000 in
theorem ggJ0_charAt_5068e_J2_charAt_3b067 : GoodIn wsJ0_charAt_5068e wsJ2_charAt_3b067 := goodIn_r _ [24, 25, 26, 23, 27, 28, 29, 30, 31, 14, 5, 15, 16, 17, 18, 19, 20, 32, 33, 34, 35, 36, 37] (by decide +kernel) (by decide +kernel)
set_option maxRecDepth 20000 in
theorem gJ0_charAt_5068e_J2_charAt_3b067 : GoodIn wsJ0_charAt_5068e (va_wsS RJ0 498 yJ2_charAt_3b067 wsJ2_charAt_3b067) := goodIn_app (goodIn_of _ (by decide +kernel)) ggJ0_charAt_5068e_J2_charAt_3b067
theorem dJ0_charAt_5068e_0 : decode cJ0_charAt_5068e 0 = .ok (.aload_n 0, 1) := by decide +kernel
theorem dJ0_charAt_5068e_1 : decode cJ0_charAt_5068e 1 = .ok (.invokevirtual 492, 3) := by decide +kernel
theorem dJ0_charAt_5068e_4 : decode cJ0_charAt_5068e 4 = .ok (.ifCond .eq 12, 3) := by decide +kernel
theorem dJ0_charAt_5068e_7 : decode cJ0_charAt_5068e 7 = .ok (.aload_n 0, 1) := by decide +kernel
theorem dJ0_charAt_5068e_8 : decode cJ0_charAt_5068e 8 = .ok (.getfield 9, 3) := by decide +kernel
theorem dJ0_charAt_5068e_11 : decode cJ0_charAt_5068e 11 = .ok (.iload_n 1, 1) := by decide +kernel
theorem dJ0_charAt_5068e_12 : decode cJ0_charAt_5068e 12 = .ok (.invokestatic 495, 3) := by decide +kernel
theorem dJ0_charAt_5068e_15 : decode cJ0_charAt_5068e 15 = .ok (.ireturn, 1) := by decide +kernel
theorem dJ0_charAt_5068e_16 : decode cJ0_charAt_5068e 16 = .ok (.aload_n 0, 1) := by decide +kernel
theorem dJ0_charAt_5068e_17 : decode cJ0_charAt_5068e 17 = .ok (.getfield 9, 3) := by decide +kernel
theorem dJ0_charAt_5068e_20 : decode cJ0_charAt_5068e 20 = .ok (.iload_n 1, 1) := by decide +kernel
theorem dJ0_charAt_5068e_21 : decode cJ0_charAt_5068e 21 = .ok (.invokestatic 498, 3) := by decide +kernel
theorem dJ0_charAt_5068e_24 : decode cJ0_charAt_5068e 24 = .ok (.ireturn, 1) := by decide +kernel
theorem dJ0_coder_7d493_0 : decode cJ0_coder_7d493 0 = .ok (.getstatic 38, 3) := by decide +kernel
theorem dJ0_coder_7d493_3 : decode cJ0_coder_7d493 3 = .ok (.ifCond .eq 10, 3) := by decide +kernel
theorem dJ0_coder_7d493_6 : decode cJ0_coder_7d493 6 = .ok (.aload_n 0, 1) := by decide +kernel
theorem dJ0_coder_7d493_7 : decode cJ0_coder_7d493 7 = .ok (.getfield 15, 3) := by decide +kernel
theorem dJ0_coder_7d493_10 : decode cJ0_coder_7d493 10 = .ok (.goto 4, 3) := by decide +kernel
theorem dJ0_coder_7d493_13 : decode cJ0_coder_7d493 13 = .ok (.iconst 1, 1) := by decide +kernel
theorem dJ0_coder_7d493_14 : decode cJ0_coder_7d493 14 = .ok (.ireturn, 1) := by decide +kernel
theorem dJ0_isLatin1_aae02_0 : decode cJ0_isLatin1_aae02 0 = .ok (.getstatic 38, 3) := by decide +kernel
theorem dJ0_isLatin1_aae02_3 : decode cJ0_isLatin1_aae02 3 = .ok (.ifCond .eq 14, 3) := by decide +kernel
theorem dJ0_isLatin1_aae02_6 : decode cJ0_isLatin1_aae02 6 = .ok (.aload_n 0, 1) := by decide +kernel
theorem dJ0_isLatin1_aae02_7 : decode cJ0_isLatin1_aae02 7 = .ok (.getfield 15, 3) := by decide +kernel
theorem dJ0_isLatin1_aae02_10 : decode cJ0_isLatin1_aae02 10 = .ok (.ifCond .ne 7, 3) := by decide +kernel
theorem dJ0_isLatin1_aae02_13 : decode cJ0_isLatin1_aae02 13 = .ok (.iconst 1, 1) := by decide +kernel
theorem dJ0_isLatin1_aae02_14 : decode cJ0_isLatin1_aae02 14 = .ok (.goto 4, 3) := by decide +kernel
theorem dJ0_isLatin1_aae02_17 : decode cJ0_isLatin1_aae02 17 = .ok (.iconst 0, 1) := by decide +kernel
theorem dJ0_isLatin1_aae02_18 : decode cJ0_isLatin1_aae02 18 = .ok (.ireturn, 1) := by decide +kernel
set_option maxRecDepth 20000 in
theorem ggJ0_checkIndex_df160_J3_checkIndex_8e157 : GoodIn wsJ0_checkIndex_df160 wsJ3_checkIndex_8e157 := goodIn_r _ [5] (by decide +kernel) (by decide +kernel)
set_option maxRecDepth 20000 in
theorem gJ0_checkIndex_df160_J3_checkIndex_8e157 : GoodIn wsJ0_checkIndex_df160 (va_wsS RJ0 1059 yJ3_checkIndex_8e157 wsJ3_checkIndex_8e157) := goodIn_app (goodIn_of _ (by decide +kernel)) ggJ0_checkIndex_df160_J3_checkIndex_8e157
theorem dJ0_checkIndex_df160_0 : decode cJ0_checkIndex_df160 0 = .ok (.iload_n 0, 1) := by decide +kernel
theorem dJ0_checkIndex_df160_1 : decode cJ0_checkIndex_df160 1 = .ok (.iload_n 1, 1) := by decide +kernel
theorem dJ0_checkIndex_df160_2 : decode cJ0_checkIndex_df160 2 = .ok (.getstatic 1053, 3) := by decide +kernel
theorem dJ0_checkIndex_df160_5 : decode cJ0_checkIndex_df160 5 = .ok (.invokestatic 1059, 3) := by decide +kernel
theorem dJ0_checkIndex_df160_8 : decode cJ0_checkIndex_df160 8 = .ok (.pop, 1) := by decide +kernel
theorem dJ0_checkIndex_df160_9 : decode cJ0_checkIndex_df160 9 = .ok (.return_, 1) := by decide +kernel
set_option maxRecDepth 20000 in
theorem ggJ1_charAt_3b067_J0_checkIndex_df160 : GoodIn wsJ1_charAt_3b067 wsJ0_checkIndex_df160 := goodIn_r _ [4, 5, 6, 7, 8, 9] (by decide +kernel) (by decide +kernel)
set_option maxRecDepth 20000 in
theorem gJ1_charAt_3b067_J0_checkIndex_df160 : GoodIn wsJ1_charAt_3b067 (va_wsS RJ1 9 yJ0_checkIndex_df160 wsJ0_checkIndex_df160) := goodIn_app (goodIn_of _ (by decide +kernel)) ggJ1_charAt_3b067_J0_checkIndex_df160
theorem dJ1_charAt_3b067_0 : decode cJ1_charAt_3b067 0 = .ok (.iload_n 1, 1) := by decide +kernel
theorem dJ1_charAt_3b067_1 : decode cJ1_charAt_3b067 1 = .ok (.aload_n 0, 1) := by decide +kernel
theorem dJ1_charAt_3b067_2 : decode cJ1_charAt_3b067 2 = .ok (.arraylength, 1) := by decide +kernel
theorem dJ1_charAt_3b067_3 : decode cJ1_charAt_3b067 3 = .ok (.invokestatic 9, 3) := by decide +kernel
theorem dJ1_charAt_3b067_6 : decode cJ1_charAt_3b067 6 = .ok (.aload_n 0, 1) := by decide +kernel
theorem dJ1_charAt_3b067_7 : decode cJ1_charAt_3b067 7 = .ok (.iload_n 1, 1) := by decide +kernel
theorem dJ1_charAt_3b067_8 : decode cJ1_charAt_3b067 8 = .ok (.baload, 1) := by decide +kernel
theorem dJ1_charAt_3b067_9 : decode cJ1_charAt_3b067 9 = .ok (.sipush 255, 3) := by decide +kernel
theorem dJ1_charAt_3b067_12 : decode cJ1_charAt_3b067 12 = .ok (.iand, 1) := by decide +kernel
theorem dJ1_charAt_3b067_13 : decode cJ1_charAt_3b067 13 = .ok (.i2c, 1) := by decide +kernel
theorem dJ1_charAt_3b067_14 : decode cJ1_charAt_3b067 14 = .ok (.ireturn, 1) := by decide +kernel
set_option maxRecDepth 20000 in
theorem ggJ2_getChar_3b067_J2_length_9d52b : GoodIn wsJ2_getChar_3b067 wsJ2_length_9d52b := goodIn_r _ [7] (by decide +kernel) (by decide +kernel)
set_option maxRecDepth 20000 in
theorem gJ2_getChar_3b067_J2_length_9d52b : GoodIn wsJ2_getChar_3b067 (va_wsS RJ2 48 yJ2_length_9d52b wsJ2_length_9d52b) := goodIn_app (goodIn_of _ (by decide +kernel)) ggJ2_getChar_3b067_J2_length_9d52b
theorem dJ2_getChar_3b067_0 : decode cJ2_getChar_3b067 0 = .ok (.getstatic 44, 3) := by decide +kernel
theorem dJ2_getChar_3b067_3 : decode cJ2_getChar_3b067 3 = .ok (.ifCond .ne 25, 3) := by decide +kernel
theorem dJ2_getChar_3b067_6 : decode cJ2_getChar_3b067 6 = .ok (.iload_n 1, 1) := by decide +kernel
theorem dJ2_getChar_3b067_7 : decode cJ2_getChar_3b067 7 = .ok (.ifCond .lt 11, 3) := by decide +kernel
theorem dJ2_getChar_3b067_10 : decode cJ2_getChar_3b067 10 = .ok (.iload_n 1, 1) := by decide +kernel
theorem dJ2_getChar_3b067_11 : decode cJ2_getChar_3b067 11 = .ok (.aload_n 0, 1) := by decide +kernel
theorem dJ2_getChar_3b067_12 : decode cJ2_getChar_3b067 12 = .ok (.invokestatic 48, 3) := by decide +kernel
theorem dJ2_getChar_3b067_15 : decode cJ2_getChar_3b067 15 = .ok (.if_icmp .lt 13, 3) := by decide +kernel
theorem dJ2_getChar_3b067_18 : decode cJ2_getChar_3b067 18 = .ok (.new 52, 3) := by decide +kernel
theorem dJ2_getChar_3b067_21 : decode cJ2_getChar_3b067 21 = .ok (.dup, 1) := by decide +kernel
theorem dJ2_getChar_3b067_22 : decode cJ2_getChar_3b067 22 = .ok (.ldc 54, 2) := by decide +kernel
theorem dJ2_getChar_3b067_24 : decode cJ2_getChar_3b067 24 = .ok (.invokespecial 56, 3) := by decide +kernel
theorem dJ2_getChar_3b067_27 : decode cJ2_getChar_3b067 27 = .ok (.athrow, 1) := by decide +kernel
theorem dJ2_getChar_3b067_28 : decode cJ2_getChar_3b067 28 = .ok (.iload_n 1, 1) := by decide +kernel
theorem dJ2_getChar_3b067_29 : decode cJ2_getChar_3b067 29 = .ok (.iconst 1, 1) := by decide +kernel
theorem dJ2_getChar_3b067_30 : decode cJ2_getChar_3b067 30 = .ok (.ishl, 1) := by decide +kernel
theorem dJ2_getChar_3b067_31 : decode cJ2_getChar_3b067 31 = .ok (.istore_n 1, 1) := by decide +kernel
theorem dJ2_getChar_3b067_32 : decode cJ2_getChar_3b067 32 = .ok (.aload_n 0, 1) := by decide +kernel
theorem dJ2_getChar_3b067_33 : decode cJ2_getChar_3b067 33 = .ok (.iload_n 1, 1) := by decide +kernel
theorem dJ2_getChar_3b067_34 : decode cJ2_getChar_3b067 34 = .ok (.iinc 1 1, 3) := by decide +kernel
theorem dJ2_getChar_3b067_37 : decode cJ2_getChar_3b067 37 = .ok (.baload, 1) := by decide +kernel
theorem dJ2_getChar_3b067_38 : decode cJ2_getChar_3b067 38 = .ok (.sipush 255, 3) := by decide +kernel
theorem dJ2_getChar_3b067_41 : decode cJ2_getChar_3b067 41 = .ok (.iand, 1) := by decide +kernel
theorem dJ2_getChar_3b067_42 : decode cJ2_getChar_3b067 42 = .ok (.getstatic 59, 3) := by decide +kernel
theorem dJ2_getChar_3b067_45 : decode cJ2_getChar_3b067 45 = .ok (.ishl, 1) := by decide +kernel
theorem dJ2_getChar_3b067_46 : decode cJ2_getChar_3b067 46 = .ok (.aload_n 0, 1) := by decide +kernel
theorem dJ2_getChar_3b067_47 : decode cJ2_getChar_3b067 47 = .ok (.iload_n 1, 1) := by decide +kernel
theorem dJ2_getChar_3b067_48 : decode cJ2_getChar_3b067 48 = .ok (.baload, 1) := by decide +kernel
theorem dJ2_getChar_3b067_49 : decode cJ2_getChar_3b067 49 = .ok (.sipush 255, 3) := by decide +kernel
theorem dJ2_getChar_3b067_52 : decode cJ2_getChar_3b067 52 = .ok (.iand, 1) := by decide +kernel
theorem dJ2_getChar_3b067_53 : decode cJ2_getChar_3b067 53 = .ok (.getstatic 63, 3) := by decide +kernel
theorem dJ2_getChar_3b067_56 : decode cJ2_getChar_3b067 56 = .ok (.ishl, 1) := by decide +kernel
theorem dJ2_getChar_3b067_57 : decode cJ2_getChar_3b067 57 = .ok (.ior, 1) := by decide +kernel
theorem dJ2_getChar_3b067_58 : decode cJ2_getChar_3b067 58 = .ok (.i2c, 1) := by decide +kernel
theorem dJ2_getChar_3b067_59 : decode cJ2_getChar_3b067 59 = .ok (.ireturn, 1) := by decide +kernel
theorem dJ2_length_9d52b_0 : decode cJ2_length_9d52b 0 = .ok (.aload_n 0, 1) := by decide +kernel
theorem dJ2_length_9d52b_1 : decode cJ2_length_9d52b 1 = .ok (.arraylength, 1) := by decide +kernel
theorem dJ2_length_9d52b_2 : decode cJ2_length_9d52b 2 = .ok (.iconst 1, 1) := by decide +kernel
theorem dJ2_length_9d52b_3 : decode cJ2_length_9d52b 3 = .ok (.ishr, 1) := by decide +kernel
theorem dJ2_length_9d52b_4 : decode cJ2_length_9d52b 4 = .ok (.ireturn, 1) := by decide +kernel
set_option maxRecDepth 20000 in
theorem ggJ2_charAt_3b067_J2_checkIndex_2214a : GoodIn wsJ2_charAt_3b067 wsJ2_checkIndex_2214a := goodIn_r _ [4, 5, 6, 3, 7, 8, 9, 10, 11, 12, 13, 14, 15, 16] (by decide +kernel) (by decide +kernel)
set_option maxRecDepth 20000 in
theorem gJ2_charAt_3b067_J2_checkIndex_2214a : GoodIn wsJ2_charAt_3b067 (va_wsS RJ2 67 yJ2_checkIndex_2214a wsJ2_checkIndex_2214a) := goodIn_app (goodIn_of _ (by decide +kernel)) ggJ2_charAt_3b067_J2_checkIndex_2214a
set_option maxRecDepth 20000 in
theorem ggJ2_charAt_3b067_J2_getChar_3b067 : GoodIn wsJ2_charAt_3b067 wsJ2_getChar_3b067 := goodIn_r _ [19, 20, 21, 22, 5, 6, 3, 7] (by decide +kernel) (by decide +kernel)
set_option maxRecDepth 20000 in
theorem gJ2_charAt_3b067_J2_getChar_3b067 : GoodIn wsJ2_charAt_3b067 (va_wsS RJ2 71 yJ2_getChar_3b067 wsJ2_getChar_3b067) := goodIn_app (goodIn_of _ (by decide +kernel)) ggJ2_charAt_3b067_J2_getChar_3b067
theorem dJ2_charAt_3b067_0 : decode cJ2_charAt_3b067 0 = .ok (.iload_n 1, 1) := by decide +kernel
theorem dJ2_charAt_3b067_1 : decode cJ2_charAt_3b067 1 = .ok (.aload_n 0, 1) := by decide +kernel
theorem dJ2_charAt_3b067_2 : decode cJ2_charAt_3b067 2 = .ok (.invokestatic 67, 3) := by decide +kernel
theorem dJ2_charAt_3b067_5 : decode cJ2_charAt_3b067 5 = .ok (.aload_n 0, 1) := by decide +kernel
theorem dJ2_charAt_3b067_6 : decode cJ2_charAt_3b067 6 = .ok (.iload_n 1, 1) := by decide +kernel
theorem dJ2_charAt_3b067_7 : decode cJ2_charAt_3b067 7 = .ok (.invokestatic 71, 3) := by decide +kernel
theorem dJ2_charAt_3b067_10 : decode cJ2_charAt_3b067 10 = .ok (.ireturn, 1) := by decide +kernel
set_option maxRecDepth 20000 in
theorem ggJ2_checkIndex_2214a_J2_length_9d52b : GoodIn wsJ2_checkIndex_2214a wsJ2_length_9d52b := goodIn_r _ [4] (by decide +kernel) (by decide +kernel)
set_option maxRecDepth 20000 in
theorem gJ2_checkIndex_2214a_J2_length_9d52b : GoodIn wsJ2_checkIndex_2214a (va_wsS RJ2 48 yJ2_length_9d52b wsJ2_length_9d52b) := goodIn_app (goodIn_of _ (by decide +kernel)) ggJ2_checkIndex_2214a_J2_length_9d52b
set_option maxRecDepth 20000 in
theorem ggJ2_checkIndex_2214a_J0_checkIndex_df160 : GoodIn wsJ2_checkIndex_2214a wsJ0_checkIndex_df160 := goodIn_r _ [8, 9, 10, 11, 12, 13] (by decide +kernel) (by decide +kernel)
set_option maxRecDepth 20000 in
theorem gJ2_checkIndex_2214a_J0_checkIndex_df160 : GoodIn wsJ2_checkIndex_2214a (va_wsS RJ2 414 yJ0_checkIndex_df160 wsJ0_checkIndex_df160) := goodIn_app (goodIn_of _ (by decide +kernel)) ggJ2_checkIndex_2214a_J0_checkIndex_df160
theorem dJ2_checkIndex_2214a_0 : decode cJ2_checkIndex_2214a 0 = .ok (.iload_n 0, 1) := by decide +kernel
theorem dJ2_checkIndex_2214a_1 : decode cJ2_checkIndex_2214a 1 = .ok (.aload_n 1, 1) := by decide +kernel
theorem dJ2_checkIndex_2214a_2 : decode cJ2_checkIndex_2214a 2 = .ok (.invokestatic 48, 3) := by decide +kernel
theorem dJ2_checkIndex_2214a_5 : decode cJ2_checkIndex_2214a 5 = .ok (.invokestatic 414, 3) := by decide +kernel
theorem dJ2_checkIndex_2214a_8 : decode cJ2_checkIndex_2214a 8 = .ok (.return_, 1) := by decide +kernel
theorem dJ7_fill_53178_0 : decode cJ7_fill_53178 0 = .ok (.iconst 0, 1) := by decide +kernel
theorem dJ7_fill_53178_1 : decode cJ7_fill_53178 1 = .ok (.istore_n 2, 1) := by decide +kernel
theorem dJ7_fill_53178_2 : decode cJ7_fill_53178 2 = .ok (.aload_n 0, 1) := by decide +kernel
theorem dJ7_fill_53178_3 : decode cJ7_fill_53178 3 = .ok (.arraylength, 1) := by decide +kernel
theorem dJ7_fill_53178_4 : decode cJ7_fill_53178 4 = .ok (.istore_n 3, 1) := by decide +kernel
theorem dJ7_fill_53178_5 : decode cJ7_fill_53178 5 = .ok (.iload_n 2, 1) := by decide +kernel
theorem dJ7_fill_53178_6 : decode cJ7_fill_53178 6 = .ok (.iload_n 3, 1) := by decide +kernel
theorem dJ7_fill_53178_7 : decode cJ7_fill_53178 7 = .ok (.if_icmp .ge 13, 3) := by decide +kernel
theorem dJ7_fill_53178_10 : decode cJ7_fill_53178 10 = .ok (.aload_n 0, 1) := by decide +kernel
theorem dJ7_fill_53178_11 : decode cJ7_fill_53178 11 = .ok (.iload_n 2, 1) := by decide +kernel
theorem dJ7_fill_53178_12 : decode cJ7_fill_53178 12 = .ok (.iload_n 1, 1) := by decide +kernel
theorem dJ7_fill_53178_13 : decode cJ7_fill_53178 13 = .ok (.iastore, 1) := by decide +kernel
theorem dJ7_fill_53178_14 : decode cJ7_fill_53178 14 = .ok (.iinc 2 1, 3) := by decide +kernel
theorem dJ7_fill_53178_17 : decode cJ7_fill_53178 17 = .ok (.goto (-12), 3) := by decide +kernel
theorem dJ7_fill_53178_20 : decode cJ7_fill_53178 20 = .ok (.return_, 1) := by decide +kernel
theorem dJ3_checkIndex_8e157_0 : decode cJ3_checkIndex_8e157 0 = .ok (.iload_n 0, 1) := by decide +kernel
theorem dJ3_checkIndex_8e157_1 : decode cJ3_checkIndex_8e157 1 = .ok (.ifCond .lt 8, 3) := by decide +kernel
theorem dJ3_checkIndex_8e157_4 : decode cJ3_checkIndex_8e157 4 = .ok (.iload_n 0, 1) := by decide +kernel
theorem dJ3_checkIndex_8e157_5 : decode cJ3_checkIndex_8e157 5 = .ok (.iload_n 1, 1) := by decide +kernel
theorem dJ3_checkIndex_8e157_6 : decode cJ3_checkIndex_8e157 6 = .ok (.if_icmp .lt 10, 3) := by decide +kernel
theorem dJ3_checkIndex_8e157_9 : decode cJ3_checkIndex_8e157 9 = .ok (.aload_n 2, 1) := by decide +kernel
theorem dJ3_checkIndex_8e157_10 : decode cJ3_checkIndex_8e157 10 = .ok (.iload_n 0, 1) := by decide +kernel
theorem dJ3_checkIndex_8e157_11 : decode cJ3_checkIndex_8e157 11 = .ok (.iload_n 1, 1) := by decide +kernel
theorem dJ3_checkIndex_8e157_12 : decode cJ3_checkIndex_8e157 12 = .ok (.invokestatic 95, 3) := by decide +kernel
theorem dJ3_checkIndex_8e157_15 : decode cJ3_checkIndex_8e157 15 = .ok (.athrow, 1) := by decide +kernel
theorem dJ3_checkIndex_8e157_16 : decode cJ3_checkIndex_8e157 16 = .ok (.iload_n 0, 1) := by decide +kernel
theorem dJ3_checkIndex_8e157_17 : decode cJ3_checkIndex_8e157 17 = .ok (.ireturn, 1) := by decide +kernel
