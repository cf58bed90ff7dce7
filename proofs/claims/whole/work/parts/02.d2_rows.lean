theorem dX9_person_43 : decode cX9_person 43 = .ok (.iastore, 1) := by decide +kernel
theorem dX9_person_44 : decode cX9_person 44 = .ok (.iconst 0, 1) := by decide +kernel
theorem dX9_person_45 : decode cX9_person 45 = .ok (.ireturn, 1) := by decide +kernel
set_option maxRecDepth 20000 in
theorem ggX9_tips_X9_isIn : GoodIn wsX9_tips wsX9_isIn := goodIn_r _ [6] (by decide +kernel) (by decide +kernel)
set_option maxRecDepth 20000 in
theorem gX9_tips_X9_isIn : GoodIn wsX9_tips (va_wsS RX9 93 yX9_isIn wsX9_isIn) := goodIn_app (goodIn_of _ (by decide +kernel)) ggX9_tips_X9_isIn
set_option maxRecDepth 20000 in
theorem ggX9_tips_X8_shareOf : GoodIn wsX9_tips wsX8_shareOf := goodIn_r _ [11, 12, 13, 14, 15, 10, 16, 17, 18, 19, 20, 21, 22, 23, 24, 39] (by decide +kernel) (by decide +kernel)
set_option maxRecDepth 20000 in
theorem gX9_tips_X8_shareOf : GoodIn wsX9_tips (wsV RX9 267 RX8 yX8_shareOf wsX8_shareOf) := goodIn_app (goodIn_of _ (by decide +kernel)) ggX9_tips_X8_shareOf
theorem dX9_tips_0 : decode cX9_tips 0 = .ok (.iload_n 1, 1) := by decide +kernel
theorem dX9_tips_1 : decode cX9_tips 1 = .ok (.iconst 0, 1) := by decide +kernel
theorem dX9_tips_2 : decode cX9_tips 2 = .ok (.ldc_w 266, 3) := by decide +kernel
theorem dX9_tips_5 : decode cX9_tips 5 = .ok (.invokestatic 93, 3) := by decide +kernel
theorem dX9_tips_8 : decode cX9_tips 8 = .ok (.ifCond .eq 12, 3) := by decide +kernel
theorem dX9_tips_11 : decode cX9_tips 11 = .ok (.iload_n 2, 1) := by decide +kernel
theorem dX9_tips_12 : decode cX9_tips 12 = .ok (.iconst 0, 1) := by decide +kernel
theorem dX9_tips_13 : decode cX9_tips 13 = .ok (.iconst 5, 1) := by decide +kernel
theorem dX9_tips_14 : decode cX9_tips 14 = .ok (.invokestatic 93, 3) := by decide +kernel
theorem dX9_tips_17 : decode cX9_tips 17 = .ok (.ifCond .ne 5, 3) := by decide +kernel
theorem dX9_tips_20 : decode cX9_tips 20 = .ok (.iconst (-1), 1) := by decide +kernel
theorem dX9_tips_21 : decode cX9_tips 21 = .ok (.ireturn, 1) := by decide +kernel
theorem dX9_tips_22 : decode cX9_tips 22 = .ok (.aload_n 0, 1) := by decide +kernel
theorem dX9_tips_23 : decode cX9_tips 23 = .ok (.getfield 78, 3) := by decide +kernel
theorem dX9_tips_26 : decode cX9_tips 26 = .ok (.iload_n 2, 1) := by decide +kernel
theorem dX9_tips_27 : decode cX9_tips 27 = .ok (.iload_n 1, 1) := by decide +kernel
theorem dX9_tips_28 : decode cX9_tips 28 = .ok (.invokevirtual 267, 3) := by decide +kernel
theorem dX9_tips_31 : decode cX9_tips 31 = .ok (.ireturn, 1) := by decide +kernel
set_option maxRecDepth 20000 in
theorem ggX9_keg_X9_isIn : GoodIn wsX9_keg wsX9_isIn := goodIn_r _ [14] (by decide +kernel) (by decide +kernel)
set_option maxRecDepth 20000 in
theorem gX9_keg_X9_isIn : GoodIn wsX9_keg (va_wsS RX9 93 yX9_isIn wsX9_isIn) := goodIn_app (goodIn_of _ (by decide +kernel)) ggX9_keg_X9_isIn
theorem dX9_keg_0 : decode cX9_keg 0 = .ok (.iload_n 1, 1) := by decide +kernel
theorem dX9_keg_1 : decode cX9_keg 1 = .ok (.sipush 1000, 3) := by decide +kernel
theorem dX9_keg_4 : decode cX9_keg 4 = .ok (.ldc_w 270, 3) := by decide +kernel
theorem dX9_keg_7 : decode cX9_keg 7 = .ok (.invokestatic 93, 3) := by decide +kernel
theorem dX9_keg_10 : decode cX9_keg 10 = .ok (.ifCond .eq 13, 3) := by decide +kernel
theorem dX9_keg_13 : decode cX9_keg 13 = .ok (.iload_n 2, 1) := by decide +kernel
theorem dX9_keg_14 : decode cX9_keg 14 = .ok (.iconst 0, 1) := by decide +kernel
theorem dX9_keg_15 : decode cX9_keg 15 = .ok (.bipush 40, 2) := by decide +kernel
theorem dX9_keg_17 : decode cX9_keg 17 = .ok (.invokestatic 93, 3) := by decide +kernel
theorem dX9_keg_20 : decode cX9_keg 20 = .ok (.ifCond .ne 5, 3) := by decide +kernel
theorem dX9_keg_23 : decode cX9_keg 23 = .ok (.iconst (-1), 1) := by decide +kernel
theorem dX9_keg_24 : decode cX9_keg 24 = .ok (.ireturn, 1) := by decide +kernel
theorem dX9_keg_25 : decode cX9_keg 25 = .ok (.bipush 90, 2) := by decide +kernel
theorem dX9_keg_27 : decode cX9_keg 27 = .ok (.aload_n 0, 1) := by decide +kernel
theorem dX9_keg_28 : decode cX9_keg 28 = .ok (.getfield 37, 3) := by decide +kernel
theorem dX9_keg_31 : decode cX9_keg 31 = .ok (.iconst 5, 1) := by decide +kernel
theorem dX9_keg_32 : decode cX9_keg 32 = .ok (.iaload, 1) := by decide +kernel
theorem dX9_keg_33 : decode cX9_keg 33 = .ok (.aload_n 0, 1) := by decide +kernel
theorem dX9_keg_34 : decode cX9_keg 34 = .ok (.getfield 37, 3) := by decide +kernel
theorem dX9_keg_37 : decode cX9_keg 37 = .ok (.bipush 6, 2) := by decide +kernel
theorem dX9_keg_39 : decode cX9_keg 39 = .ok (.iaload, 1) := by decide +kernel
theorem dX9_keg_40 : decode cX9_keg 40 = .ok (.iconst 0, 1) := by decide +kernel
theorem dX9_keg_41 : decode cX9_keg 41 = .ok (.iload_n 2, 1) := by decide +kernel
theorem dX9_keg_42 : decode cX9_keg 42 = .ok (.iconst 4, 1) := by decide +kernel
theorem dX9_keg_43 : decode cX9_keg 43 = .ok (.isub, 1) := by decide +kernel
theorem dX9_keg_44 : decode cX9_keg 44 = .ok (.invokestatic 271, 3) := by decide +kernel
theorem dX9_keg_47 : decode cX9_keg 47 = .ok (.imul, 1) := by decide +kernel
theorem dX9_keg_48 : decode cX9_keg 48 = .ok (.iadd, 1) := by decide +kernel
theorem dX9_keg_49 : decode cX9_keg 49 = .ok (.invokestatic 274, 3) := by decide +kernel
theorem dX9_keg_52 : decode cX9_keg 52 = .ok (.istore_n 3, 1) := by decide +kernel
theorem dX9_keg_53 : decode cX9_keg 53 = .ok (.iload_n 1, 1) := by decide +kernel
theorem dX9_keg_54 : decode cX9_keg 54 = .ok (.bipush 100, 2) := by decide +kernel
theorem dX9_keg_56 : decode cX9_keg 56 = .ok (.iload_n 3, 1) := by decide +kernel
theorem dX9_keg_57 : decode cX9_keg 57 = .ok (.isub, 1) := by decide +kernel
theorem dX9_keg_58 : decode cX9_keg 58 = .ok (.imul, 1) := by decide +kernel
theorem dX9_keg_59 : decode cX9_keg 59 = .ok (.ldc_w 277, 3) := by decide +kernel
theorem dX9_keg_62 : decode cX9_keg 62 = .ok (.idiv, 1) := by decide +kernel
theorem dX9_keg_63 : decode cX9_keg 63 = .ok (.ireturn, 1) := by decide +kernel
set_option maxRecDepth 20000 in
theorem ggX9_deal_X9_isIn : GoodIn wsX9_deal wsX9_isIn := goodIn_r _ [7] (by decide +kernel) (by decide +kernel)
set_option maxRecDepth 20000 in
theorem gX9_deal_X9_isIn : GoodIn wsX9_deal (va_wsS RX9 93 yX9_isIn wsX9_isIn) := goodIn_app (goodIn_of _ (by decide +kernel)) ggX9_deal_X9_isIn
set_option maxRecDepth 20000 in
theorem ggX9_deal_X2_add : GoodIn wsX9_deal wsX2_add := goodIn_r _ [12, 13, 14, 15, 30, 31, 32, 33] (by decide +kernel) (by decide +kernel)
set_option maxRecDepth 20000 in
theorem gX9_deal_X2_add : GoodIn wsX9_deal (wsV RX9 279 RX2 yX2_add wsX2_add) := goodIn_app (goodIn_of _ (by decide +kernel)) ggX9_deal_X2_add
theorem dX9_deal_0 : decode cX9_deal 0 = .ok (.iload_n 1, 1) := by decide +kernel
theorem dX9_deal_1 : decode cX9_deal 1 = .ok (.iconst 1, 1) := by decide +kernel
theorem dX9_deal_2 : decode cX9_deal 2 = .ok (.bipush 24, 2) := by decide +kernel
theorem dX9_deal_4 : decode cX9_deal 4 = .ok (.invokestatic 93, 3) := by decide +kernel
theorem dX9_deal_7 : decode cX9_deal 7 = .ok (.ifCond .eq 14, 3) := by decide +kernel
theorem dX9_deal_10 : decode cX9_deal 10 = .ok (.iload_n 2, 1) := by decide +kernel
theorem dX9_deal_11 : decode cX9_deal 11 = .ok (.iconst 0, 1) := by decide +kernel
theorem dX9_deal_12 : decode cX9_deal 12 = .ok (.ldc_w 270, 3) := by decide +kernel
theorem dX9_deal_15 : decode cX9_deal 15 = .ok (.invokestatic 93, 3) := by decide +kernel
theorem dX9_deal_18 : decode cX9_deal 18 = .ok (.ifCond .ne 5, 3) := by decide +kernel
theorem dX9_deal_21 : decode cX9_deal 21 = .ok (.iconst (-1), 1) := by decide +kernel
theorem dX9_deal_22 : decode cX9_deal 22 = .ok (.ireturn, 1) := by decide +kernel
theorem dX9_deal_23 : decode cX9_deal 23 = .ok (.aload_n 0, 1) := by decide +kernel
theorem dX9_deal_24 : decode cX9_deal 24 = .ok (.getfield 85, 3) := by decide +kernel
theorem dX9_deal_27 : decode cX9_deal 27 = .ok (.getfield 278, 3) := by decide +kernel
theorem dX9_deal_30 : decode cX9_deal 30 = .ok (.iconst 5, 1) := by decide +kernel
theorem dX9_deal_31 : decode cX9_deal 31 = .ok (.if_icmp .lt 6, 3) := by decide +kernel
theorem dX9_deal_34 : decode cX9_deal 34 = .ok (.bipush (-3), 2) := by decide +kernel
theorem dX9_deal_36 : decode cX9_deal 36 = .ok (.ireturn, 1) := by decide +kernel
theorem dX9_deal_37 : decode cX9_deal 37 = .ok (.aload_n 0, 1) := by decide +kernel
theorem dX9_deal_38 : decode cX9_deal 38 = .ok (.getfield 85, 3) := by decide +kernel
theorem dX9_deal_41 : decode cX9_deal 41 = .ok (.iload_n 1, 1) := by decide +kernel
theorem dX9_deal_42 : decode cX9_deal 42 = .ok (.iload_n 2, 1) := by decide +kernel
theorem dX9_deal_43 : decode cX9_deal 43 = .ok (.invokevirtual 279, 3) := by decide +kernel
theorem dX9_deal_46 : decode cX9_deal 46 = .ok (.aload_n 0, 1) := by decide +kernel
theorem dX9_deal_47 : decode cX9_deal 47 = .ok (.getfield 85, 3) := by decide +kernel
theorem dX9_deal_50 : decode cX9_deal 50 = .ok (.getfield 278, 3) := by decide +kernel
theorem dX9_deal_53 : decode cX9_deal 53 = .ok (.ireturn, 1) := by decide +kernel
set_option maxRecDepth 20000 in
theorem ggX9_buy_X9_isIn : GoodIn wsX9_buy wsX9_isIn := goodIn_r _ [6] (by decide +kernel) (by decide +kernel)
set_option maxRecDepth 20000 in
theorem gX9_buy_X9_isIn : GoodIn wsX9_buy (va_wsS RX9 93 yX9_isIn wsX9_isIn) := goodIn_app (goodIn_of _ (by decide +kernel)) ggX9_buy_X9_isIn
set_option maxRecDepth 20000 in
theorem ggX9_buy_X2_weighUp : GoodIn wsX9_buy wsX2_weighUp := goodIn_r _ [11, 12, 13, 14, 15, 16, 17, 18, 19, 20, 21, 10, 22, 23, 24, 55, 56, 57, 58] (by decide +kernel) (by decide +kernel)
set_option maxRecDepth 20000 in
theorem gX9_buy_X2_weighUp : GoodIn wsX9_buy (wsV RX9 280 RX2 yX2_weighUp wsX2_weighUp) := goodIn_app (goodIn_of _ (by decide +kernel)) ggX9_buy_X2_weighUp
set_option maxRecDepth 20000 in
theorem ggX9_buy_X2_bestBottles : GoodIn wsX9_buy wsX2_bestBottles := goodIn_r _ [28, 12, 55, 56, 57, 58] (by decide +kernel) (by decide +kernel)
set_option maxRecDepth 20000 in
theorem gX9_buy_X2_bestBottles : GoodIn wsX9_buy (wsV RX9 283 RX2 yX2_bestBottles wsX2_bestBottles) := goodIn_app (goodIn_of _ (by decide +kernel)) ggX9_buy_X2_bestBottles
set_option maxRecDepth 20000 in
theorem ggX9_buy_X2_leastFor : GoodIn wsX9_buy wsX2_leastFor := goodIn_r _ [32, 12, 55, 56, 57, 58] (by decide +kernel) (by decide +kernel)
set_option maxRecDepth 20000 in
theorem gX9_buy_X2_leastFor : GoodIn wsX9_buy (wsV RX9 286 RX2 yX2_leastFor wsX2_leastFor) := goodIn_app (goodIn_of _ (by decide +kernel)) ggX9_buy_X2_leastFor
set_option maxRecDepth 20000 in
theorem ggX9_buy_X2_timesOf : GoodIn wsX9_buy wsX2_timesOf := goodIn_r _ [36, 23, 37, 38, 39, 10, 40, 12, 19, 20, 21, 22, 14, 24, 55, 56, 57, 58] (by decide +kernel) (by decide +kernel)
set_option maxRecDepth 20000 in
theorem gX9_buy_X2_timesOf : GoodIn wsX9_buy (wsV RX9 289 RX2 yX2_timesOf wsX2_timesOf) := goodIn_app (goodIn_of _ (by decide +kernel)) ggX9_buy_X2_timesOf
theorem dX9_buy_0 : decode cX9_buy 0 = .ok (.iload_n 1, 1) := by decide +kernel
theorem dX9_buy_1 : decode cX9_buy 1 = .ok (.iconst 1, 1) := by decide +kernel
theorem dX9_buy_2 : decode cX9_buy 2 = .ok (.bipush 120, 2) := by decide +kernel
theorem dX9_buy_4 : decode cX9_buy 4 = .ok (.invokestatic 93, 3) := by decide +kernel
theorem dX9_buy_7 : decode cX9_buy 7 = .ok (.ifCond .eq 20, 3) := by decide +kernel
theorem dX9_buy_10 : decode cX9_buy 10 = .ok (.iload_n 2, 1) := by decide +kernel
theorem dX9_buy_11 : decode cX9_buy 11 = .ok (.iconst 0, 1) := by decide +kernel
theorem dX9_buy_12 : decode cX9_buy 12 = .ok (.iconst 1, 1) := by decide +kernel
theorem dX9_buy_13 : decode cX9_buy 13 = .ok (.aload_n 0, 1) := by decide +kernel
theorem dX9_buy_14 : decode cX9_buy 14 = .ok (.getfield 85, 3) := by decide +kernel
theorem dX9_buy_17 : decode cX9_buy 17 = .ok (.getfield 278, 3) := by decide +kernel
theorem dX9_buy_20 : decode cX9_buy 20 = .ok (.iadd, 1) := by decide +kernel
theorem dX9_buy_21 : decode cX9_buy 21 = .ok (.invokestatic 93, 3) := by decide +kernel
theorem dX9_buy_24 : decode cX9_buy 24 = .ok (.ifCond .ne 5, 3) := by decide +kernel
theorem dX9_buy_27 : decode cX9_buy 27 = .ok (.iconst (-1), 1) := by decide +kernel
theorem dX9_buy_28 : decode cX9_buy 28 = .ok (.ireturn, 1) := by decide +kernel
theorem dX9_buy_29 : decode cX9_buy 29 = .ok (.aload_n 0, 1) := by decide +kernel
theorem dX9_buy_30 : decode cX9_buy 30 = .ok (.getfield 85, 3) := by decide +kernel
theorem dX9_buy_33 : decode cX9_buy 33 = .ok (.getfield 278, 3) := by decide +kernel
theorem dX9_buy_36 : decode cX9_buy 36 = .ok (.ifCond .ne 6, 3) := by decide +kernel
theorem dX9_buy_39 : decode cX9_buy 39 = .ok (.bipush (-2), 2) := by decide +kernel
theorem dX9_buy_41 : decode cX9_buy 41 = .ok (.ireturn, 1) := by decide +kernel
theorem dX9_buy_42 : decode cX9_buy 42 = .ok (.aload_n 0, 1) := by decide +kernel
theorem dX9_buy_43 : decode cX9_buy 43 = .ok (.getfield 85, 3) := by decide +kernel
theorem dX9_buy_46 : decode cX9_buy 46 = .ok (.invokevirtual 280, 3) := by decide +kernel
theorem dX9_buy_49 : decode cX9_buy 49 = .ok (.aload_n 0, 1) := by decide +kernel
theorem dX9_buy_50 : decode cX9_buy 50 = .ok (.getfield 85, 3) := by decide +kernel
theorem dX9_buy_53 : decode cX9_buy 53 = .ok (.iload_n 1, 1) := by decide +kernel
theorem dX9_buy_54 : decode cX9_buy 54 = .ok (.invokevirtual 283, 3) := by decide +kernel
theorem dX9_buy_57 : decode cX9_buy 57 = .ok (.istore_n 3, 1) := by decide +kernel
theorem dX9_buy_58 : decode cX9_buy 58 = .ok (.iload_n 2, 1) := by decide +kernel
theorem dX9_buy_59 : decode cX9_buy 59 = .ok (.lookupswitch 36 #[(0, 25), (1, 34)], 25) := by decide +kernel
theorem dX9_buy_84 : decode cX9_buy 84 = .ok (.aload_n 0, 1) := by decide +kernel
theorem dX9_buy_85 : decode cX9_buy 85 = .ok (.getfield 85, 3) := by decide +kernel
theorem dX9_buy_88 : decode cX9_buy 88 = .ok (.iload_n 3, 1) := by decide +kernel
theorem dX9_buy_89 : decode cX9_buy 89 = .ok (.invokevirtual 286, 3) := by decide +kernel
theorem dX9_buy_92 : decode cX9_buy 92 = .ok (.ireturn, 1) := by decide +kernel
theorem dX9_buy_93 : decode cX9_buy 93 = .ok (.iload_n 3, 1) := by decide +kernel
theorem dX9_buy_94 : decode cX9_buy 94 = .ok (.ireturn, 1) := by decide +kernel
theorem dX9_buy_95 : decode cX9_buy 95 = .ok (.aload_n 0, 1) := by decide +kernel
theorem dX9_buy_96 : decode cX9_buy 96 = .ok (.getfield 85, 3) := by decide +kernel
theorem dX9_buy_99 : decode cX9_buy 99 = .ok (.iload_n 2, 1) := by decide +kernel
theorem dX9_buy_100 : decode cX9_buy 100 = .ok (.iconst 2, 1) := by decide +kernel
theorem dX9_buy_101 : decode cX9_buy 101 = .ok (.isub, 1) := by decide +kernel
theorem dX9_buy_102 : decode cX9_buy 102 = .ok (.iload_n 3, 1) := by decide +kernel
theorem dX9_buy_103 : decode cX9_buy 103 = .ok (.invokevirtual 289, 3) := by decide +kernel
theorem dX9_buy_106 : decode cX9_buy 106 = .ok (.ireturn, 1) := by decide +kernel
theorem dX9_count_0 : decode cX9_count 0 = .ok (.iload_n 1, 1) := by decide +kernel
theorem dX9_count_1 : decode cX9_count 1 = .ok (.tableswitch 87 0 6 #[43, 48, 53, 58, 66, 71, 79], 43) := by decide +kernel
theorem dX9_count_44 : decode cX9_count 44 = .ok (.aload_n 0, 1) := by decide +kernel
theorem dX9_count_45 : decode cX9_count 45 = .ok (.getfield 15, 3) := by decide +kernel
theorem dX9_count_48 : decode cX9_count 48 = .ok (.ireturn, 1) := by decide +kernel
theorem dX9_count_49 : decode cX9_count 49 = .ok (.aload_n 0, 1) := by decide +kernel
theorem dX9_count_50 : decode cX9_count 50 = .ok (.getfield 25, 3) := by decide +kernel
theorem dX9_count_53 : decode cX9_count 53 = .ok (.ireturn, 1) := by decide +kernel
theorem dX9_count_54 : decode cX9_count 54 = .ok (.aload_n 0, 1) := by decide +kernel
theorem dX9_count_55 : decode cX9_count 55 = .ok (.getfield 46, 3) := by decide +kernel
theorem dX9_count_58 : decode cX9_count 58 = .ok (.ireturn, 1) := by decide +kernel
theorem dX9_count_59 : decode cX9_count 59 = .ok (.aload_n 0, 1) := by decide +kernel
theorem dX9_count_60 : decode cX9_count 60 = .ok (.getfield 52, 3) := by decide +kernel
theorem dX9_count_63 : decode cX9_count 63 = .ok (.getfield 167, 3) := by decide +kernel
theorem dX9_count_66 : decode cX9_count 66 = .ok (.ireturn, 1) := by decide +kernel
theorem dX9_count_67 : decode cX9_count 67 = .ok (.aload_n 0, 1) := by decide +kernel
theorem dX9_count_68 : decode cX9_count 68 = .ok (.getfield 72, 3) := by decide +kernel
theorem dX9_count_71 : decode cX9_count 71 = .ok (.ireturn, 1) := by decide +kernel
theorem dX9_count_72 : decode cX9_count 72 = .ok (.aload_n 0, 1) := by decide +kernel
theorem dX9_count_73 : decode cX9_count 73 = .ok (.getfield 85, 3) := by decide +kernel
theorem dX9_count_76 : decode cX9_count 76 = .ok (.getfield 278, 3) := by decide +kernel
theorem dX9_count_79 : decode cX9_count 79 = .ok (.ireturn, 1) := by decide +kernel
theorem dX9_count_80 : decode cX9_count 80 = .ok (.aload_n 0, 1) := by decide +kernel
theorem dX9_count_81 : decode cX9_count 81 = .ok (.getfield 62, 3) := by decide +kernel
theorem dX9_count_84 : decode cX9_count 84 = .ok (.getfield 226, 3) := by decide +kernel
theorem dX9_count_87 : decode cX9_count 87 = .ok (.ireturn, 1) := by decide +kernel
theorem dX9_count_88 : decode cX9_count 88 = .ok (.iconst (-1), 1) := by decide +kernel
theorem dX9_count_89 : decode cX9_count 89 = .ok (.ireturn, 1) := by decide +kernel
theorem dX9_isIn_0 : decode cX9_isIn 0 = .ok (.iload_n 1, 1) := by decide +kernel
theorem dX9_isIn_1 : decode cX9_isIn 1 = .ok (.iload_n 0, 1) := by decide +kernel
theorem dX9_isIn_2 : decode cX9_isIn 2 = .ok (.if_icmp .gt 12, 3) := by decide +kernel
theorem dX9_isIn_5 : decode cX9_isIn 5 = .ok (.iload_n 0, 1) := by decide +kernel
theorem dX9_isIn_6 : decode cX9_isIn 6 = .ok (.iload_n 2, 1) := by decide +kernel
theorem dX9_isIn_7 : decode cX9_isIn 7 = .ok (.if_icmp .gt 7, 3) := by decide +kernel
theorem dX9_isIn_10 : decode cX9_isIn 10 = .ok (.iconst 1, 1) := by decide +kernel
theorem dX9_isIn_11 : decode cX9_isIn 11 = .ok (.goto 4, 3) := by decide +kernel
theorem dX9_isIn_14 : decode cX9_isIn 14 = .ok (.iconst 0, 1) := by decide +kernel
theorem dX9_isIn_15 : decode cX9_isIn 15 = .ok (.ireturn, 1) := by decide +kernel
set_option maxRecDepth 20000 in
theorem ggX9_isBar_X9_isIn : GoodIn wsX9_isBar wsX9_isIn := goodIn_r _ [4] (by decide +kernel) (by decide +kernel)
set_option maxRecDepth 20000 in
theorem gX9_isBar_X9_isIn : GoodIn wsX9_isBar (va_wsS RX9 93 yX9_isIn wsX9_isIn) := goodIn_app (goodIn_of _ (by decide +kernel)) ggX9_isBar_X9_isIn
theorem dX9_isBar_0 : decode cX9_isBar 0 = .ok (.iload_n 0, 1) := by decide +kernel
theorem dX9_isBar_1 : decode cX9_isBar 1 = .ok (.iconst 0, 1) := by decide +kernel
theorem dX9_isBar_2 : decode cX9_isBar 2 = .ok (.iconst 1, 1) := by decide +kernel
theorem dX9_isBar_3 : decode cX9_isBar 3 = .ok (.invokestatic 93, 3) := by decide +kernel
theorem dX9_isBar_6 : decode cX9_isBar 6 = .ok (.ireturn, 1) := by decide +kernel
set_option maxRecDepth 20000 in
theorem ggX9_isKeeper_X9_isIn : GoodIn wsX9_isKeeper wsX9_isIn := goodIn_r _ [4] (by decide +kernel) (by decide +kernel)
set_option maxRecDepth 20000 in
theorem gX9_isKeeper_X9_isIn : GoodIn wsX9_isKeeper (va_wsS RX9 93 yX9_isIn wsX9_isIn) := goodIn_app (goodIn_of _ (by decide +kernel)) ggX9_isKeeper_X9_isIn
theorem dX9_isKeeper_0 : decode cX9_isKeeper 0 = .ok (.iload_n 0, 1) := by decide +kernel
theorem dX9_isKeeper_1 : decode cX9_isKeeper 1 = .ok (.iconst 0, 1) := by decide +kernel
theorem dX9_isKeeper_2 : decode cX9_isKeeper 2 = .ok (.iconst 2, 1) := by decide +kernel
theorem dX9_isKeeper_3 : decode cX9_isKeeper 3 = .ok (.invokestatic 93, 3) := by decide +kernel
theorem dX9_isKeeper_6 : decode cX9_isKeeper 6 = .ok (.ireturn, 1) := by decide +kernel
set_option maxRecDepth 20000 in
theorem ggX9_isTime_X9_isIn : GoodIn wsX9_isTime wsX9_isIn := goodIn_r _ [4] (by decide +kernel) (by decide +kernel)
set_option maxRecDepth 20000 in
theorem gX9_isTime_X9_isIn : GoodIn wsX9_isTime (va_wsS RX9 93 yX9_isIn wsX9_isIn) := goodIn_app (goodIn_of _ (by decide +kernel)) ggX9_isTime_X9_isIn
theorem dX9_isTime_0 : decode cX9_isTime 0 = .ok (.iload_n 0, 1) := by decide +kernel
theorem dX9_isTime_1 : decode cX9_isTime 1 = .ok (.iconst 0, 1) := by decide +kernel
theorem dX9_isTime_2 : decode cX9_isTime 2 = .ok (.bipush 6, 2) := by decide +kernel
theorem dX9_isTime_4 : decode cX9_isTime 4 = .ok (.invokestatic 93, 3) := by decide +kernel
theorem dX9_isTime_7 : decode cX9_isTime 7 = .ok (.ifCond .eq 18, 3) := by decide +kernel
theorem dX9_isTime_10 : decode cX9_isTime 10 = .ok (.iload_n 1, 1) := by decide +kernel
theorem dX9_isTime_11 : decode cX9_isTime 11 = .ok (.iconst 0, 1) := by decide +kernel
theorem dX9_isTime_12 : decode cX9_isTime 12 = .ok (.sipush 1439, 3) := by decide +kernel
theorem dX9_isTime_15 : decode cX9_isTime 15 = .ok (.invokestatic 93, 3) := by decide +kernel
theorem dX9_isTime_18 : decode cX9_isTime 18 = .ok (.ifCond .eq 7, 3) := by decide +kernel
theorem dX9_isTime_21 : decode cX9_isTime 21 = .ok (.iconst 1, 1) := by decide +kernel
theorem dX9_isTime_22 : decode cX9_isTime 22 = .ok (.goto 4, 3) := by decide +kernel
theorem dX9_isTime_25 : decode cX9_isTime 25 = .ok (.iconst 0, 1) := by decide +kernel
theorem dX9_isTime_26 : decode cX9_isTime 26 = .ok (.ireturn, 1) := by decide +kernel
set_option maxRecDepth 20000 in
theorem ggX9_isKind_X9_isIn : GoodIn wsX9_isKind wsX9_isIn := goodIn_r _ [5] (by decide +kernel) (by decide +kernel)
set_option maxRecDepth 20000 in
theorem gX9_isKind_X9_isIn : GoodIn wsX9_isKind (va_wsS RX9 93 yX9_isIn wsX9_isIn) := goodIn_app (goodIn_of _ (by decide +kernel)) ggX9_isKind_X9_isIn
theorem dX9_isKind_0 : decode cX9_isKind 0 = .ok (.iload_n 1, 1) := by decide +kernel
theorem dX9_isKind_1 : decode cX9_isKind 1 = .ok (.iconst 0, 1) := by decide +kernel
theorem dX9_isKind_2 : decode cX9_isKind 2 = .ok (.aload_n 0, 1) := by decide +kernel
theorem dX9_isKind_3 : decode cX9_isKind 3 = .ok (.getfield 15, 3) := by decide +kernel
theorem dX9_isKind_6 : decode cX9_isKind 6 = .ok (.iconst 1, 1) := by decide +kernel
theorem dX9_isKind_7 : decode cX9_isKind 7 = .ok (.isub, 1) := by decide +kernel
theorem dX9_isKind_8 : decode cX9_isKind 8 = .ok (.invokestatic 93, 3) := by decide +kernel
theorem dX9_isKind_11 : decode cX9_isKind 11 = .ok (.ireturn, 1) := by decide +kernel
set_option maxRecDepth 20000 in
theorem ggX9_isRecipe_X9_isIn : GoodIn wsX9_isRecipe wsX9_isIn := goodIn_r _ [5] (by decide +kernel) (by decide +kernel)
set_option maxRecDepth 20000 in
theorem gX9_isRecipe_X9_isIn : GoodIn wsX9_isRecipe (va_wsS RX9 93 yX9_isIn wsX9_isIn) := goodIn_app (goodIn_of _ (by decide +kernel)) ggX9_isRecipe_X9_isIn
theorem dX9_isRecipe_0 : decode cX9_isRecipe 0 = .ok (.iload_n 1, 1) := by decide +kernel
theorem dX9_isRecipe_1 : decode cX9_isRecipe 1 = .ok (.iconst 0, 1) := by decide +kernel
theorem dX9_isRecipe_2 : decode cX9_isRecipe 2 = .ok (.aload_n 0, 1) := by decide +kernel
theorem dX9_isRecipe_3 : decode cX9_isRecipe 3 = .ok (.getfield 25, 3) := by decide +kernel
theorem dX9_isRecipe_6 : decode cX9_isRecipe 6 = .ok (.iconst 1, 1) := by decide +kernel
theorem dX9_isRecipe_7 : decode cX9_isRecipe 7 = .ok (.isub, 1) := by decide +kernel
theorem dX9_isRecipe_8 : decode cX9_isRecipe 8 = .ok (.invokestatic 93, 3) := by decide +kernel
theorem dX9_isRecipe_11 : decode cX9_isRecipe 11 = .ok (.ireturn, 1) := by decide +kernel
theorem dX9_allKinds_0 : decode cX9_allKinds 0 = .ok (.iconst 1, 1) := by decide +kernel
theorem dX9_allKinds_1 : decode cX9_allKinds 1 = .ok (.aload_n 0, 1) := by decide +kernel
theorem dX9_allKinds_2 : decode cX9_allKinds 2 = .ok (.getfield 15, 3) := by decide +kernel
theorem dX9_allKinds_5 : decode cX9_allKinds 5 = .ok (.ishl, 1) := by decide +kernel
theorem dX9_allKinds_6 : decode cX9_allKinds 6 = .ok (.iconst 1, 1) := by decide +kernel
theorem dX9_allKinds_7 : decode cX9_allKinds 7 = .ok (.isub, 1) := by decide +kernel
theorem dX9_allKinds_8 : decode cX9_allKinds 8 = .ok (.ireturn, 1) := by decide +kernel
theorem dX9_sheetOf_0 : decode cX9_sheetOf 0 = .ok (.aload_n 0, 1) := by decide +kernel
theorem dX9_sheetOf_1 : decode cX9_sheetOf 1 = .ok (.getfield 42, 3) := by decide +kernel
theorem dX9_sheetOf_4 : decode cX9_sheetOf 4 = .ok (.iload_n 1, 1) := by decide +kernel
theorem dX9_sheetOf_5 : decode cX9_sheetOf 5 = .ok (.iconst 2, 1) := by decide +kernel
theorem dX9_sheetOf_6 : decode cX9_sheetOf 6 = .ok (.imul, 1) := by decide +kernel
theorem dX9_sheetOf_7 : decode cX9_sheetOf 7 = .ok (.iload_n 2, 1) := by decide +kernel
theorem dX9_sheetOf_8 : decode cX9_sheetOf 8 = .ok (.iadd, 1) := by decide +kernel
theorem dX9_sheetOf_9 : decode cX9_sheetOf 9 = .ok (.aaload, 1) := by decide +kernel
theorem dX9_sheetOf_10 : decode cX9_sheetOf 10 = .ok (.areturn, 1) := by decide +kernel
theorem dX9_sheetsSoFar_0 : decode cX9_sheetsSoFar 0 = .ok (.aload_n 0, 1) := by decide +kernel
theorem dX9_sheetsSoFar_1 : decode cX9_sheetsSoFar 1 = .ok (.getfield 46, 3) := by decide +kernel
theorem dX9_sheetsSoFar_4 : decode cX9_sheetsSoFar 4 = .ok (.iconst 1, 1) := by decide +kernel
theorem dX9_sheetsSoFar_5 : decode cX9_sheetsSoFar 5 = .ok (.iadd, 1) := by decide +kernel
theorem dX9_sheetsSoFar_6 : decode cX9_sheetsSoFar 6 = .ok (.iconst 2, 1) := by decide +kernel
theorem dX9_sheetsSoFar_7 : decode cX9_sheetsSoFar 7 = .ok (.imul, 1) := by decide +kernel
theorem dX9_sheetsSoFar_8 : decode cX9_sheetsSoFar 8 = .ok (.ireturn, 1) := by decide +kernel
set_option maxRecDepth 20000 in
theorem ggX9_carryOut_X1_nextRow : GoodIn wsX9_carryOut wsX1_nextRow := goodIn_r _ [11, 12, 13, 14, 15, 16, 17, 18, 71, 72, 73] (by decide +kernel) (by decide +kernel)
set_option maxRecDepth 20000 in
theorem gX9_carryOut_X1_nextRow : GoodIn wsX9_carryOut (wsV RX9 292 RX1 yX1_nextRow wsX1_nextRow) := goodIn_app (goodIn_of _ (by decide +kernel)) ggX9_carryOut_X1_nextRow
set_option maxRecDepth 20000 in
theorem ggX9_carryOut_X9_apply : GoodIn wsX9_carryOut wsX9_apply := goodIn_r _ [23, 24, 3, 2, 25, 4, 26, 5, 27, 28, 29, 30, 22, 31, 32, 33, 34, 35, 36, 37, 38, 39, 40, 41, 6, 42, 43, 44, 45, 46, 47, 48, 49, 50, 51, 52, 53, 54, 55, 56, 57, 58, 59, 60, 61, 62, 63, 64, 65, 66, 67, 68, 69, 70, 74, 75, 76, 77, 78, 79, 80, 81, 82, 83, 84, 85, 86, 87, 88, 89] (by decide +kernel) (by decide +kernel)
set_option maxRecDepth 20000 in
theorem gX9_carryOut_X9_apply : GoodIn wsX9_carryOut (wsV RX9 174 RX9 yX9_apply wsX9_apply) := goodIn_app (goodIn_of _ (by decide +kernel)) ggX9_carryOut_X9_apply
theorem dX9_carryOut_0 : decode cX9_carryOut 0 = .ok (.aload_n 0, 1) := by decide +kernel
theorem dX9_carryOut_1 : decode cX9_carryOut 1 = .ok (.getfield 52, 3) := by decide +kernel
theorem dX9_carryOut_4 : decode cX9_carryOut 4 = .ok (.invokevirtual 292, 3) := by decide +kernel
theorem dX9_carryOut_7 : decode cX9_carryOut 7 = .ok (.astore 6, 2) := by decide +kernel
theorem dX9_carryOut_9 : decode cX9_carryOut 9 = .ok (.aload 6, 2) := by decide +kernel
theorem dX9_carryOut_11 : decode cX9_carryOut 11 = .ok (.iload_n 1, 1) := by decide +kernel
theorem dX9_carryOut_12 : decode cX9_carryOut 12 = .ok (.putfield 178, 3) := by decide +kernel
theorem dX9_carryOut_15 : decode cX9_carryOut 15 = .ok (.aload 6, 2) := by decide +kernel
theorem dX9_carryOut_17 : decode cX9_carryOut 17 = .ok (.iload_n 2, 1) := by decide +kernel
theorem dX9_carryOut_18 : decode cX9_carryOut 18 = .ok (.putfield 295, 3) := by decide +kernel
theorem dX9_carryOut_21 : decode cX9_carryOut 21 = .ok (.aload 6, 2) := by decide +kernel
theorem dX9_carryOut_23 : decode cX9_carryOut 23 = .ok (.iload_n 3, 1) := by decide +kernel
theorem dX9_carryOut_24 : decode cX9_carryOut 24 = .ok (.putfield 298, 3) := by decide +kernel
theorem dX9_carryOut_27 : decode cX9_carryOut 27 = .ok (.aload 6, 2) := by decide +kernel
theorem dX9_carryOut_29 : decode cX9_carryOut 29 = .ok (.iload 4, 2) := by decide +kernel
theorem dX9_carryOut_31 : decode cX9_carryOut 31 = .ok (.putfield 301, 3) := by decide +kernel
theorem dX9_carryOut_34 : decode cX9_carryOut 34 = .ok (.aload 6, 2) := by decide +kernel
theorem dX9_carryOut_36 : decode cX9_carryOut 36 = .ok (.iload 5, 2) := by decide +kernel
theorem dX9_carryOut_38 : decode cX9_carryOut 38 = .ok (.putfield 304, 3) := by decide +kernel
theorem dX9_carryOut_41 : decode cX9_carryOut 41 = .ok (.aload_n 0, 1) := by decide +kernel
theorem dX9_carryOut_42 : decode cX9_carryOut 42 = .ok (.aload 6, 2) := by decide +kernel
theorem dX9_carryOut_44 : decode cX9_carryOut 44 = .ok (.iconst 1, 1) := by decide +kernel
theorem dX9_carryOut_45 : decode cX9_carryOut 45 = .ok (.invokevirtual 174, 3) := by decide +kernel
theorem dX9_carryOut_48 : decode cX9_carryOut 48 = .ok (.return_, 1) := by decide +kernel
set_option maxRecDepth 20000 in
theorem ggX9_apply_X9_sheetOf : GoodIn wsX9_apply wsX9_sheetOf := goodIn_r _ [13, 14, 35, 36, 37, 38, 39, 40, 41, 42, 43, 44, 45, 46, 47, 48] (by decide +kernel) (by decide +kernel)
set_option maxRecDepth 20000 in
theorem gX9_apply_X9_sheetOf : GoodIn wsX9_apply (wsV RX9 149 RX9 yX9_sheetOf wsX9_sheetOf) := goodIn_app (goodIn_of _ (by decide +kernel)) ggX9_apply_X9_sheetOf
set_option maxRecDepth 20000 in
theorem ggX9_apply_X9_applySale : GoodIn wsX9_apply wsX9_applySale := goodIn_r _ [18, 19, 5, 20, 21, 8, 2, 7, 22, 23, 24, 25, 26, 27, 28, 29, 30, 31, 32, 33, 34, 35, 36, 37, 38, 39, 40, 41, 42, 43, 44, 45, 46, 47, 48, 49, 50, 51, 52, 53, 59, 60, 61, 62, 54, 55, 56, 57, 58, 63, 64, 65, 66, 67, 68, 69] (by decide +kernel) (by decide +kernel)
set_option maxRecDepth 20000 in
theorem gX9_apply_X9_applySale : GoodIn wsX9_apply (wsV RX9 307 RX9 yX9_applySale wsX9_applySale) := goodIn_app (goodIn_of _ (by decide +kernel)) ggX9_apply_X9_applySale
set_option maxRecDepth 20000 in
theorem ggX9_apply_X4_move : GoodIn wsX9_apply wsX4_move := goodIn_r _ [29, 30, 31, 32, 33, 34, 63, 64, 65, 66, 67, 68, 69] (by decide +kernel) (by decide +kernel)
set_option maxRecDepth 20000 in
theorem gX9_apply_X4_move : GoodIn wsX9_apply (wsV RX9 311 RX4 yX4_move wsX4_move) := goodIn_app (goodIn_of _ (by decide +kernel)) ggX9_apply_X4_move
theorem dX9_apply_0 : decode cX9_apply 0 = .ok (.aload_n 0, 1) := by decide +kernel
theorem dX9_apply_1 : decode cX9_apply 1 = .ok (.aload_n 0, 1) := by decide +kernel
theorem dX9_apply_2 : decode cX9_apply 2 = .ok (.getfield 46, 3) := by decide +kernel
theorem dX9_apply_5 : decode cX9_apply 5 = .ok (.aload_n 1, 1) := by decide +kernel
theorem dX9_apply_6 : decode cX9_apply 6 = .ok (.getfield 295, 3) := by decide +kernel
theorem dX9_apply_9 : decode cX9_apply 9 = .ok (.invokevirtual 149, 3) := by decide +kernel
theorem dX9_apply_12 : decode cX9_apply 12 = .ok (.astore_n 3, 1) := by decide +kernel
theorem dX9_apply_13 : decode cX9_apply 13 = .ok (.aload_n 1, 1) := by decide +kernel
theorem dX9_apply_14 : decode cX9_apply 14 = .ok (.getfield 178, 3) := by decide +kernel
theorem dX9_apply_17 : decode cX9_apply 17 = .ok (.iconst 3, 1) := by decide +kernel
theorem dX9_apply_18 : decode cX9_apply 18 = .ok (.if_icmp .ne 11, 3) := by decide +kernel
theorem dX9_apply_21 : decode cX9_apply 21 = .ok (.aload_n 0, 1) := by decide +kernel
theorem dX9_apply_22 : decode cX9_apply 22 = .ok (.aload_n 1, 1) := by decide +kernel
theorem dX9_apply_23 : decode cX9_apply 23 = .ok (.aload_n 3, 1) := by decide +kernel
theorem dX9_apply_24 : decode cX9_apply 24 = .ok (.iload_n 2, 1) := by decide +kernel
theorem dX9_apply_25 : decode cX9_apply 25 = .ok (.invokevirtual 307, 3) := by decide +kernel
theorem dX9_apply_28 : decode cX9_apply 28 = .ok (.return_, 1) := by decide +kernel
theorem dX9_apply_29 : decode cX9_apply 29 = .ok (.aload_n 1, 1) := by decide +kernel
theorem dX9_apply_30 : decode cX9_apply 30 = .ok (.getfield 178, 3) := by decide +kernel
theorem dX9_apply_33 : decode cX9_apply 33 = .ok (.bipush 6, 2) := by decide +kernel
theorem dX9_apply_35 : decode cX9_apply 35 = .ok (.if_icmp .ne 34, 3) := by decide +kernel
theorem dX9_apply_38 : decode cX9_apply 38 = .ok (.aload_n 3, 1) := by decide +kernel
theorem dX9_apply_39 : decode cX9_apply 39 = .ok (.getfield 153, 3) := by decide +kernel
theorem dX9_apply_42 : decode cX9_apply 42 = .ok (.aload_n 1, 1) := by decide +kernel
theorem dX9_apply_43 : decode cX9_apply 43 = .ok (.getfield 298, 3) := by decide +kernel
theorem dX9_apply_46 : decode cX9_apply 46 = .ok (.iload_n 2, 1) := by decide +kernel
theorem dX9_apply_47 : decode cX9_apply 47 = .ok (.ifCond .le 7, 3) := by decide +kernel
theorem dX9_apply_50 : decode cX9_apply 50 = .ok (.iconst 1, 1) := by decide +kernel
theorem dX9_apply_51 : decode cX9_apply 51 = .ok (.goto 4, 3) := by decide +kernel
theorem dX9_apply_54 : decode cX9_apply 54 = .ok (.iconst 0, 1) := by decide +kernel
theorem dX9_apply_55 : decode cX9_apply 55 = .ok (.bastore, 1) := by decide +kernel
theorem dX9_apply_56 : decode cX9_apply 56 = .ok (.aload_n 3, 1) := by decide +kernel
theorem dX9_apply_57 : decode cX9_apply 57 = .ok (.getfield 195, 3) := by decide +kernel
theorem dX9_apply_60 : decode cX9_apply 60 = .ok (.aload_n 1, 1) := by decide +kernel
theorem dX9_apply_61 : decode cX9_apply 61 = .ok (.getfield 298, 3) := by decide +kernel
theorem dX9_apply_64 : decode cX9_apply 64 = .ok (.aload_n 1, 1) := by decide +kernel
theorem dX9_apply_65 : decode cX9_apply 65 = .ok (.getfield 301, 3) := by decide +kernel
theorem dX9_apply_68 : decode cX9_apply 68 = .ok (.iastore, 1) := by decide +kernel
theorem dX9_apply_69 : decode cX9_apply 69 = .ok (.aload_n 0, 1) := by decide +kernel
theorem dX9_apply_70 : decode cX9_apply 70 = .ok (.getfield 11, 3) := by decide +kernel
theorem dX9_apply_73 : decode cX9_apply 73 = .ok (.aload_n 1, 1) := by decide +kernel
theorem dX9_apply_74 : decode cX9_apply 74 = .ok (.getfield 298, 3) := by decide +kernel
theorem dX9_apply_77 : decode cX9_apply 77 = .ok (.aaload, 1) := by decide +kernel
theorem dX9_apply_78 : decode cX9_apply 78 = .ok (.aload_n 1, 1) := by decide +kernel
theorem dX9_apply_79 : decode cX9_apply 79 = .ok (.getfield 178, 3) := by decide +kernel
theorem dX9_apply_82 : decode cX9_apply 82 = .ok (.aload_n 1, 1) := by decide +kernel
theorem dX9_apply_83 : decode cX9_apply 83 = .ok (.getfield 295, 3) := by decide +kernel
theorem dX9_apply_86 : decode cX9_apply 86 = .ok (.iload_n 2, 1) := by decide +kernel
theorem dX9_apply_87 : decode cX9_apply 87 = .ok (.aload_n 1, 1) := by decide +kernel
theorem dX9_apply_88 : decode cX9_apply 88 = .ok (.getfield 301, 3) := by decide +kernel
theorem dX9_apply_91 : decode cX9_apply 91 = .ok (.imul, 1) := by decide +kernel
theorem dX9_apply_92 : decode cX9_apply 92 = .ok (.invokevirtual 311, 3) := by decide +kernel
theorem dX9_apply_95 : decode cX9_apply 95 = .ok (.return_, 1) := by decide +kernel
set_option maxRecDepth 20000 in
theorem ggX9_applySale_X4_move : GoodIn wsX9_applySale wsX4_move := goodIn_r _ [15, 16, 17, 18, 19, 20, 49, 50, 51, 52, 53, 54, 55] (by decide +kernel) (by decide +kernel)
set_option maxRecDepth 20000 in
theorem gX9_applySale_X4_move : GoodIn wsX9_applySale (wsV RX9 311 RX4 yX4_move wsX4_move) := goodIn_app (goodIn_of _ (by decide +kernel)) ggX9_applySale_X4_move
theorem dX9_applySale_0 : decode cX9_applySale 0 = .ok (.aload_n 0, 1) := by decide +kernel
theorem dX9_applySale_1 : decode cX9_applySale 1 = .ok (.getfield 21, 3) := by decide +kernel
theorem dX9_applySale_4 : decode cX9_applySale 4 = .ok (.aload_n 1, 1) := by decide +kernel
theorem dX9_applySale_5 : decode cX9_applySale 5 = .ok (.getfield 298, 3) := by decide +kernel
theorem dX9_applySale_8 : decode cX9_applySale 8 = .ok (.aaload, 1) := by decide +kernel
theorem dX9_applySale_9 : decode cX9_applySale 9 = .ok (.astore 4, 2) := by decide +kernel
theorem dX9_applySale_11 : decode cX9_applySale 11 = .ok (.iconst 0, 1) := by decide +kernel
theorem dX9_applySale_12 : decode cX9_applySale 12 = .ok (.istore 5, 2) := by decide +kernel
theorem dX9_applySale_14 : decode cX9_applySale 14 = .ok (.iload 5, 2) := by decide +kernel
theorem dX9_applySale_16 : decode cX9_applySale 16 = .ok (.aload_n 0, 1) := by decide +kernel
theorem dX9_applySale_17 : decode cX9_applySale 17 = .ok (.getfield 15, 3) := by decide +kernel
theorem dX9_applySale_20 : decode cX9_applySale 20 = .ok (.if_icmp .ge 69, 3) := by decide +kernel
theorem dX9_applySale_23 : decode cX9_applySale 23 = .ok (.aload 4, 2) := by decide +kernel
theorem dX9_applySale_25 : decode cX9_applySale 25 = .ok (.getfield 315, 3) := by decide +kernel
theorem dX9_applySale_28 : decode cX9_applySale 28 = .ok (.iload 5, 2) := by decide +kernel
theorem dX9_applySale_30 : decode cX9_applySale 30 = .ok (.iaload, 1) := by decide +kernel
theorem dX9_applySale_31 : decode cX9_applySale 31 = .ok (.ifCond .le 52, 3) := by decide +kernel
theorem dX9_applySale_34 : decode cX9_applySale 34 = .ok (.aload_n 0, 1) := by decide +kernel
theorem dX9_applySale_35 : decode cX9_applySale 35 = .ok (.getfield 11, 3) := by decide +kernel
theorem dX9_applySale_38 : decode cX9_applySale 38 = .ok (.iload 5, 2) := by decide +kernel
theorem dX9_applySale_40 : decode cX9_applySale 40 = .ok (.aaload, 1) := by decide +kernel
theorem dX9_applySale_41 : decode cX9_applySale 41 = .ok (.iconst 3, 1) := by decide +kernel
theorem dX9_applySale_42 : decode cX9_applySale 42 = .ok (.aload_n 1, 1) := by decide +kernel
theorem dX9_applySale_43 : decode cX9_applySale 43 = .ok (.getfield 295, 3) := by decide +kernel
theorem dX9_applySale_46 : decode cX9_applySale 46 = .ok (.iload_n 3, 1) := by decide +kernel
theorem dX9_applySale_47 : decode cX9_applySale 47 = .ok (.aload_n 1, 1) := by decide +kernel
theorem dX9_applySale_48 : decode cX9_applySale 48 = .ok (.getfield 301, 3) := by decide +kernel
theorem dX9_applySale_51 : decode cX9_applySale 51 = .ok (.imul, 1) := by decide +kernel
theorem dX9_applySale_52 : decode cX9_applySale 52 = .ok (.aload 4, 2) := by decide +kernel
theorem dX9_applySale_54 : decode cX9_applySale 54 = .ok (.getfield 315, 3) := by decide +kernel
theorem dX9_applySale_57 : decode cX9_applySale 57 = .ok (.iload 5, 2) := by decide +kernel
theorem dX9_applySale_59 : decode cX9_applySale 59 = .ok (.iaload, 1) := by decide +kernel
theorem dX9_applySale_60 : decode cX9_applySale 60 = .ok (.imul, 1) := by decide +kernel
theorem dX9_applySale_61 : decode cX9_applySale 61 = .ok (.bipush 6, 2) := by decide +kernel
theorem dX9_applySale_63 : decode cX9_applySale 63 = .ok (.imul, 1) := by decide +kernel
theorem dX9_applySale_64 : decode cX9_applySale 64 = .ok (.invokevirtual 311, 3) := by decide +kernel
theorem dX9_applySale_67 : decode cX9_applySale 67 = .ok (.aload_n 2, 1) := by decide +kernel
theorem dX9_applySale_68 : decode cX9_applySale 68 = .ok (.getfield 202, 3) := by decide +kernel
theorem dX9_applySale_71 : decode cX9_applySale 71 = .ok (.iload 5, 2) := by decide +kernel
theorem dX9_applySale_73 : decode cX9_applySale 73 = .ok (.dup2, 1) := by decide +kernel
theorem dX9_applySale_74 : decode cX9_applySale 74 = .ok (.iaload, 1) := by decide +kernel
theorem dX9_applySale_75 : decode cX9_applySale 75 = .ok (.iload_n 3, 1) := by decide +kernel
theorem dX9_applySale_76 : decode cX9_applySale 76 = .ok (.aload_n 1, 1) := by decide +kernel
theorem dX9_applySale_77 : decode cX9_applySale 77 = .ok (.getfield 301, 3) := by decide +kernel
theorem dX9_applySale_80 : decode cX9_applySale 80 = .ok (.imul, 1) := by decide +kernel
theorem dX9_applySale_81 : decode cX9_applySale 81 = .ok (.iadd, 1) := by decide +kernel
theorem dX9_applySale_82 : decode cX9_applySale 82 = .ok (.iastore, 1) := by decide +kernel
theorem dX9_applySale_83 : decode cX9_applySale 83 = .ok (.iinc 5 1, 3) := by decide +kernel
theorem dX9_applySale_86 : decode cX9_applySale 86 = .ok (.goto (-72), 3) := by decide +kernel
theorem dX9_applySale_89 : decode cX9_applySale 89 = .ok (.aload_n 0, 1) := by decide +kernel
theorem dX9_applySale_90 : decode cX9_applySale 90 = .ok (.getfield 56, 3) := by decide +kernel
theorem dX9_applySale_93 : decode cX9_applySale 93 = .ok (.aload_n 1, 1) := by decide +kernel
theorem dX9_applySale_94 : decode cX9_applySale 94 = .ok (.getfield 295, 3) := by decide +kernel
theorem dX9_applySale_97 : decode cX9_applySale 97 = .ok (.dup2, 1) := by decide +kernel
theorem dX9_applySale_98 : decode cX9_applySale 98 = .ok (.iaload, 1) := by decide +kernel
theorem dX9_applySale_99 : decode cX9_applySale 99 = .ok (.iload_n 3, 1) := by decide +kernel
theorem dX9_applySale_100 : decode cX9_applySale 100 = .ok (.aload_n 1, 1) := by decide +kernel
theorem dX9_applySale_101 : decode cX9_applySale 101 = .ok (.getfield 304, 3) := by decide +kernel
theorem dX9_applySale_104 : decode cX9_applySale 104 = .ok (.imul, 1) := by decide +kernel
theorem dX9_applySale_105 : decode cX9_applySale 105 = .ok (.iadd, 1) := by decide +kernel
theorem dX9_applySale_106 : decode cX9_applySale 106 = .ok (.iastore, 1) := by decide +kernel
theorem dX9_applySale_107 : decode cX9_applySale 107 = .ok (.return_, 1) := by decide +kernel
set_option maxRecDepth 20000 in
theorem ggX9_spanNow_X4_mlOfScale : GoodIn wsX9_spanNow wsX4_mlOfScale := goodIn_r _ [8, 9, 29, 30, 31, 32, 33, 34, 35] (by decide +kernel) (by decide +kernel)
set_option maxRecDepth 20000 in
theorem gX9_spanNow_X4_mlOfScale : GoodIn wsX9_spanNow (wsV RX9 318 RX4 yX4_mlOfScale wsX4_mlOfScale) := goodIn_app (goodIn_of _ (by decide +kernel)) ggX9_spanNow_X4_mlOfScale
theorem dX9_spanNow_0 : decode cX9_spanNow 0 = .ok (.aload_n 0, 1) := by decide +kernel
theorem dX9_spanNow_1 : decode cX9_spanNow 1 = .ok (.getfield 11, 3) := by decide +kernel
theorem dX9_spanNow_4 : decode cX9_spanNow 4 = .ok (.iload_n 2, 1) := by decide +kernel
theorem dX9_spanNow_5 : decode cX9_spanNow 5 = .ok (.aaload, 1) := by decide +kernel
theorem dX9_spanNow_6 : decode cX9_spanNow 6 = .ok (.aload_n 0, 1) := by decide +kernel
theorem dX9_spanNow_7 : decode cX9_spanNow 7 = .ok (.getfield 37, 3) := by decide +kernel
theorem dX9_spanNow_10 : decode cX9_spanNow 10 = .ok (.iconst 0, 1) := by decide +kernel
theorem dX9_spanNow_11 : decode cX9_spanNow 11 = .ok (.iaload, 1) := by decide +kernel
theorem dX9_spanNow_12 : decode cX9_spanNow 12 = .ok (.invokevirtual 318, 3) := by decide +kernel
theorem dX9_spanNow_15 : decode cX9_spanNow 15 = .ok (.aload_n 0, 1) := by decide +kernel
theorem dX9_spanNow_16 : decode cX9_spanNow 16 = .ok (.getfield 37, 3) := by decide +kernel
theorem dX9_spanNow_19 : decode cX9_spanNow 19 = .ok (.iconst 1, 1) := by decide +kernel
theorem dX9_spanNow_20 : decode cX9_spanNow 20 = .ok (.iaload, 1) := by decide +kernel
theorem dX9_spanNow_21 : decode cX9_spanNow 21 = .ok (.aload_n 1, 1) := by decide +kernel
theorem dX9_spanNow_22 : decode cX9_spanNow 22 = .ok (.getfield 202, 3) := by decide +kernel
theorem dX9_spanNow_25 : decode cX9_spanNow 25 = .ok (.iload_n 2, 1) := by decide +kernel
theorem dX9_spanNow_26 : decode cX9_spanNow 26 = .ok (.iaload, 1) := by decide +kernel
theorem dX9_spanNow_27 : decode cX9_spanNow 27 = .ok (.imul, 1) := by decide +kernel
theorem dX9_spanNow_28 : decode cX9_spanNow 28 = .ok (.iadd, 1) := by decide +kernel
theorem dX9_spanNow_29 : decode cX9_spanNow 29 = .ok (.ireturn, 1) := by decide +kernel
set_option maxRecDepth 20000 in
theorem ggX9_priceAt_X5_holds : GoodIn wsX9_priceAt wsX5_holds := goodIn_r _ [15, 16, 17, 18, 19, 20, 14, 21, 22, 41, 42, 43, 44] (by decide +kernel) (by decide +kernel)
set_option maxRecDepth 20000 in
theorem gX9_priceAt_X5_holds : GoodIn wsX9_priceAt (wsV RX9 321 RX5 yX5_holds wsX5_holds) := goodIn_app (goodIn_of _ (by decide +kernel)) ggX9_priceAt_X5_holds
theorem dX9_priceAt_0 : decode cX9_priceAt 0 = .ok (.aload_n 0, 1) := by decide +kernel
theorem dX9_priceAt_1 : decode cX9_priceAt 1 = .ok (.getfield 21, 3) := by decide +kernel
theorem dX9_priceAt_4 : decode cX9_priceAt 4 = .ok (.iload_n 1, 1) := by decide +kernel
theorem dX9_priceAt_5 : decode cX9_priceAt 5 = .ok (.aaload, 1) := by decide +kernel
theorem dX9_priceAt_6 : decode cX9_priceAt 6 = .ok (.getfield 106, 3) := by decide +kernel
theorem dX9_priceAt_9 : decode cX9_priceAt 9 = .ok (.istore 4, 2) := by decide +kernel
theorem dX9_priceAt_11 : decode cX9_priceAt 11 = .ok (.aload_n 0, 1) := by decide +kernel
theorem dX9_priceAt_12 : decode cX9_priceAt 12 = .ok (.getfield 72, 3) := by decide +kernel
theorem dX9_priceAt_15 : decode cX9_priceAt 15 = .ok (.iconst 1, 1) := by decide +kernel
theorem dX9_priceAt_16 : decode cX9_priceAt 16 = .ok (.isub, 1) := by decide +kernel
theorem dX9_priceAt_17 : decode cX9_priceAt 17 = .ok (.istore 5, 2) := by decide +kernel
theorem dX9_priceAt_19 : decode cX9_priceAt 19 = .ok (.iload 5, 2) := by decide +kernel
theorem dX9_priceAt_21 : decode cX9_priceAt 21 = .ok (.ifCond .lt 50, 3) := by decide +kernel
theorem dX9_priceAt_24 : decode cX9_priceAt 24 = .ok (.aload_n 0, 1) := by decide +kernel
theorem dX9_priceAt_25 : decode cX9_priceAt 25 = .ok (.getfield 68, 3) := by decide +kernel
theorem dX9_priceAt_28 : decode cX9_priceAt 28 = .ok (.iload 5, 2) := by decide +kernel
theorem dX9_priceAt_30 : decode cX9_priceAt 30 = .ok (.aaload, 1) := by decide +kernel
theorem dX9_priceAt_31 : decode cX9_priceAt 31 = .ok (.iload_n 2, 1) := by decide +kernel
theorem dX9_priceAt_32 : decode cX9_priceAt 32 = .ok (.iload_n 3, 1) := by decide +kernel
theorem dX9_priceAt_33 : decode cX9_priceAt 33 = .ok (.invokevirtual 321, 3) := by decide +kernel
theorem dX9_priceAt_36 : decode cX9_priceAt 36 = .ok (.ifCond .eq 29, 3) := by decide +kernel
theorem dX9_priceAt_39 : decode cX9_priceAt 39 = .ok (.aload_n 0, 1) := by decide +kernel
theorem dX9_priceAt_40 : decode cX9_priceAt 40 = .ok (.getfield 37, 3) := by decide +kernel
theorem dX9_priceAt_43 : decode cX9_priceAt 43 = .ok (.iconst 4, 1) := by decide +kernel
theorem dX9_priceAt_44 : decode cX9_priceAt 44 = .ok (.iaload, 1) := by decide +kernel
theorem dX9_priceAt_45 : decode cX9_priceAt 45 = .ok (.iload 4, 2) := by decide +kernel
theorem dX9_priceAt_47 : decode cX9_priceAt 47 = .ok (.aload_n 0, 1) := by decide +kernel
theorem dX9_priceAt_48 : decode cX9_priceAt 48 = .ok (.getfield 68, 3) := by decide +kernel
theorem dX9_priceAt_51 : decode cX9_priceAt 51 = .ok (.iload 5, 2) := by decide +kernel
theorem dX9_priceAt_53 : decode cX9_priceAt 53 = .ok (.aaload, 1) := by decide +kernel
theorem dX9_priceAt_54 : decode cX9_priceAt 54 = .ok (.getfield 260, 3) := by decide +kernel
theorem dX9_priceAt_57 : decode cX9_priceAt 57 = .ok (.imul, 1) := by decide +kernel
theorem dX9_priceAt_58 : decode cX9_priceAt 58 = .ok (.bipush 100, 2) := by decide +kernel
theorem dX9_priceAt_60 : decode cX9_priceAt 60 = .ok (.idiv, 1) := by decide +kernel
theorem dX9_priceAt_61 : decode cX9_priceAt 61 = .ok (.invokestatic 271, 3) := by decide +kernel
theorem dX9_priceAt_64 : decode cX9_priceAt 64 = .ok (.ireturn, 1) := by decide +kernel
theorem dX9_priceAt_65 : decode cX9_priceAt 65 = .ok (.iinc 5 (-1), 3) := by decide +kernel
theorem dX9_priceAt_68 : decode cX9_priceAt 68 = .ok (.goto (-49), 3) := by decide +kernel
theorem dX9_priceAt_71 : decode cX9_priceAt 71 = .ok (.aload_n 0, 1) := by decide +kernel
theorem dX9_priceAt_72 : decode cX9_priceAt 72 = .ok (.getfield 37, 3) := by decide +kernel
theorem dX9_priceAt_75 : decode cX9_priceAt 75 = .ok (.iconst 4, 1) := by decide +kernel
theorem dX9_priceAt_76 : decode cX9_priceAt 76 = .ok (.iaload, 1) := by decide +kernel
theorem dX9_priceAt_77 : decode cX9_priceAt 77 = .ok (.iload 4, 2) := by decide +kernel
theorem dX9_priceAt_79 : decode cX9_priceAt 79 = .ok (.invokestatic 271, 3) := by decide +kernel
theorem dX9_priceAt_82 : decode cX9_priceAt 82 = .ok (.ireturn, 1) := by decide +kernel
set_option maxRecDepth 20000 in
theorem ggX9_madeBy_X6_canBeMadeBy : GoodIn wsX9_madeBy wsX6_canBeMadeBy := goodIn_r _ [7, 8, 23, 24, 25, 26] (by decide +kernel) (by decide +kernel)
set_option maxRecDepth 20000 in
theorem gX9_madeBy_X6_canBeMadeBy : GoodIn wsX9_madeBy (wsV RX9 324 RX6 yX6_canBeMadeBy wsX6_canBeMadeBy) := goodIn_app (goodIn_of _ (by decide +kernel)) ggX9_madeBy_X6_canBeMadeBy
theorem dX9_madeBy_0 : decode cX9_madeBy 0 = .ok (.iconst 0, 1) := by decide +kernel
theorem dX9_madeBy_1 : decode cX9_madeBy 1 = .ok (.istore_n 2, 1) := by decide +kernel
theorem dX9_madeBy_2 : decode cX9_madeBy 2 = .ok (.iconst 0, 1) := by decide +kernel
theorem dX9_madeBy_3 : decode cX9_madeBy 3 = .ok (.istore_n 3, 1) := by decide +kernel
theorem dX9_madeBy_4 : decode cX9_madeBy 4 = .ok (.iload_n 3, 1) := by decide +kernel
theorem dX9_madeBy_5 : decode cX9_madeBy 5 = .ok (.aload_n 0, 1) := by decide +kernel
theorem dX9_madeBy_6 : decode cX9_madeBy 6 = .ok (.getfield 25, 3) := by decide +kernel
theorem dX9_madeBy_9 : decode cX9_madeBy 9 = .ok (.if_icmp .ge 25, 3) := by decide +kernel
theorem dX9_madeBy_12 : decode cX9_madeBy 12 = .ok (.aload_n 0, 1) := by decide +kernel
theorem dX9_madeBy_13 : decode cX9_madeBy 13 = .ok (.getfield 21, 3) := by decide +kernel
theorem dX9_madeBy_16 : decode cX9_madeBy 16 = .ok (.iload_n 3, 1) := by decide +kernel
theorem dX9_madeBy_17 : decode cX9_madeBy 17 = .ok (.aaload, 1) := by decide +kernel
theorem dX9_madeBy_18 : decode cX9_madeBy 18 = .ok (.iload_n 1, 1) := by decide +kernel
theorem dX9_madeBy_19 : decode cX9_madeBy 19 = .ok (.invokevirtual 324, 3) := by decide +kernel
theorem dX9_madeBy_22 : decode cX9_madeBy 22 = .ok (.ifCond .eq 6, 3) := by decide +kernel
theorem dX9_madeBy_25 : decode cX9_madeBy 25 = .ok (.iinc 2 1, 3) := by decide +kernel
theorem dX9_madeBy_28 : decode cX9_madeBy 28 = .ok (.iinc 3 1, 3) := by decide +kernel
theorem dX9_madeBy_31 : decode cX9_madeBy 31 = .ok (.goto (-27), 3) := by decide +kernel
theorem dX9_madeBy_34 : decode cX9_madeBy 34 = .ok (.iload_n 2, 1) := by decide +kernel
theorem dX9_madeBy_35 : decode cX9_madeBy 35 = .ok (.ireturn, 1) := by decide +kernel
theorem dX9_commonDivisor_0 : decode cX9_commonDivisor 0 = .ok (.iconst 0, 1) := by decide +kernel
theorem dX9_commonDivisor_1 : decode cX9_commonDivisor 1 = .ok (.istore 4, 2) := by decide +kernel
theorem dX9_commonDivisor_3 : decode cX9_commonDivisor 3 = .ok (.iload 4, 2) := by decide +kernel
theorem dX9_commonDivisor_5 : decode cX9_commonDivisor 5 = .ok (.bipush 100, 2) := by decide +kernel
theorem dX9_commonDivisor_7 : decode cX9_commonDivisor 7 = .ok (.if_icmp .ge 25, 3) := by decide +kernel
theorem dX9_commonDivisor_10 : decode cX9_commonDivisor 10 = .ok (.lload_n 2, 1) := by decide +kernel
theorem dX9_commonDivisor_11 : decode cX9_commonDivisor 11 = .ok (.lconst 0, 1) := by decide +kernel
theorem dX9_commonDivisor_12 : decode cX9_commonDivisor 12 = .ok (.lcmp, 1) := by decide +kernel
theorem dX9_commonDivisor_13 : decode cX9_commonDivisor 13 = .ok (.ifCond .eq 19, 3) := by decide +kernel
theorem dX9_commonDivisor_16 : decode cX9_commonDivisor 16 = .ok (.lload_n 0, 1) := by decide +kernel
theorem dX9_commonDivisor_17 : decode cX9_commonDivisor 17 = .ok (.lload_n 2, 1) := by decide +kernel
theorem dX9_commonDivisor_18 : decode cX9_commonDivisor 18 = .ok (.lrem, 1) := by decide +kernel
theorem dX9_commonDivisor_19 : decode cX9_commonDivisor 19 = .ok (.lstore 5, 2) := by decide +kernel
theorem dX9_commonDivisor_21 : decode cX9_commonDivisor 21 = .ok (.lload_n 2, 1) := by decide +kernel
theorem dX9_commonDivisor_22 : decode cX9_commonDivisor 22 = .ok (.lstore_n 0, 1) := by decide +kernel
theorem dX9_commonDivisor_23 : decode cX9_commonDivisor 23 = .ok (.lload 5, 2) := by decide +kernel
theorem dX9_commonDivisor_25 : decode cX9_commonDivisor 25 = .ok (.lstore_n 2, 1) := by decide +kernel
theorem dX9_commonDivisor_26 : decode cX9_commonDivisor 26 = .ok (.iinc 4 1, 3) := by decide +kernel
theorem dX9_commonDivisor_29 : decode cX9_commonDivisor 29 = .ok (.goto (-26), 3) := by decide +kernel
theorem dX9_commonDivisor_32 : decode cX9_commonDivisor 32 = .ok (.lload_n 0, 1) := by decide +kernel
theorem dX9_commonDivisor_33 : decode cX9_commonDivisor 33 = .ok (.lconst 0, 1) := by decide +kernel
theorem dX9_commonDivisor_34 : decode cX9_commonDivisor 34 = .ok (.lcmp, 1) := by decide +kernel
theorem dX9_commonDivisor_35 : decode cX9_commonDivisor 35 = .ok (.ifCond .ne 7, 3) := by decide +kernel
theorem dX9_commonDivisor_38 : decode cX9_commonDivisor 38 = .ok (.lconst 1, 1) := by decide +kernel
theorem dX9_commonDivisor_39 : decode cX9_commonDivisor 39 = .ok (.goto 4, 3) := by decide +kernel
theorem dX9_commonDivisor_42 : decode cX9_commonDivisor 42 = .ok (.lload_n 0, 1) := by decide +kernel
theorem dX9_commonDivisor_43 : decode cX9_commonDivisor 43 = .ok (.lreturn, 1) := by decide +kernel
theorem dX10_init_0 : decode cX10_init 0 = .ok (.aload_n 0, 1) := by decide +kernel
theorem dX10_init_1 : decode cX10_init 1 = .ok (.invokespecial 1, 3) := by decide +kernel
theorem dX10_init_4 : decode cX10_init 4 = .ok (.aload_n 0, 1) := by decide +kernel
theorem dX10_init_5 : decode cX10_init 5 = .ok (.bipush 10, 2) := by decide +kernel
theorem dX10_init_7 : decode cX10_init 7 = .ok (.newarray .int, 2) := by decide +kernel
theorem dX10_init_9 : decode cX10_init 9 = .ok (.putfield 7, 3) := by decide +kernel
theorem dX10_init_12 : decode cX10_init 12 = .ok (.aload_n 0, 1) := by decide +kernel
theorem dX10_init_13 : decode cX10_init 13 = .ok (.bipush 10, 2) := by decide +kernel
theorem dX10_init_15 : decode cX10_init 15 = .ok (.newarray .int, 2) := by decide +kernel
theorem dX10_init_17 : decode cX10_init 17 = .ok (.putfield 13, 3) := by decide +kernel
theorem dX10_init_20 : decode cX10_init 20 = .ok (.aload_n 0, 1) := by decide +kernel
theorem dX10_init_21 : decode cX10_init 21 = .ok (.bipush 10, 2) := by decide +kernel
theorem dX10_init_23 : decode cX10_init 23 = .ok (.newarray .int, 2) := by decide +kernel
theorem dX10_init_25 : decode cX10_init 25 = .ok (.putfield 16, 3) := by decide +kernel
theorem dX10_init_28 : decode cX10_init 28 = .ok (.aload_n 0, 1) := by decide +kernel
theorem dX10_init_29 : decode cX10_init 29 = .ok (.bipush 12, 2) := by decide +kernel
theorem dX10_init_31 : decode cX10_init 31 = .ok (.newarray .int, 2) := by decide +kernel
theorem dX10_init_33 : decode cX10_init 33 = .ok (.putfield 19, 3) := by decide +kernel
theorem dX10_init_36 : decode cX10_init 36 = .ok (.aload_n 0, 1) := by decide +kernel
theorem dX10_init_37 : decode cX10_init 37 = .ok (.bipush 120, 2) := by decide +kernel
theorem dX10_init_39 : decode cX10_init 39 = .ok (.newarray .int, 2) := by decide +kernel
theorem dX10_init_41 : decode cX10_init 41 = .ok (.putfield 22, 3) := by decide +kernel
theorem dX10_init_44 : decode cX10_init 44 = .ok (.aload_n 0, 1) := by decide +kernel
theorem dX10_init_45 : decode cX10_init 45 = .ok (.bipush 12, 2) := by decide +kernel
theorem dX10_init_47 : decode cX10_init 47 = .ok (.newarray .boolean, 2) := by decide +kernel
theorem dX10_init_49 : decode cX10_init 49 = .ok (.putfield 25, 3) := by decide +kernel
theorem dX10_init_52 : decode cX10_init 52 = .ok (.aload_n 0, 1) := by decide +kernel
theorem dX10_init_53 : decode cX10_init 53 = .ok (.bipush 7, 2) := by decide +kernel
theorem dX10_init_55 : decode cX10_init 55 = .ok (.newarray .int, 2) := by decide +kernel
theorem dX10_init_57 : decode cX10_init 57 = .ok (.putfield 29, 3) := by decide +kernel
theorem dX10_init_60 : decode cX10_init 60 = .ok (.aload_n 0, 1) := by decide +kernel
theorem dX10_init_61 : decode cX10_init 61 = .ok (.bipush 10, 2) := by decide +kernel
theorem dX10_init_63 : decode cX10_init 63 = .ok (.newarray .int, 2) := by decide +kernel
theorem dX10_init_65 : decode cX10_init 65 = .ok (.putfield 32, 3) := by decide +kernel
theorem dX10_init_68 : decode cX10_init 68 = .ok (.aload_n 0, 1) := by decide +kernel
theorem dX10_init_69 : decode cX10_init 69 = .ok (.bipush 20, 2) := by decide +kernel
theorem dX10_init_71 : decode cX10_init 71 = .ok (.newarray .int, 2) := by decide +kernel
theorem dX10_init_73 : decode cX10_init 73 = .ok (.putfield 35, 3) := by decide +kernel
theorem dX10_init_76 : decode cX10_init 76 = .ok (.aload_n 0, 1) := by decide +kernel
theorem dX10_init_77 : decode cX10_init 77 = .ok (.sipush 400, 3) := by decide +kernel
theorem dX10_init_80 : decode cX10_init 80 = .ok (.newarray .int, 2) := by decide +kernel
theorem dX10_init_82 : decode cX10_init 82 = .ok (.putfield 38, 3) := by decide +kernel
theorem dX10_init_85 : decode cX10_init 85 = .ok (.aload_n 0, 1) := by decide +kernel
theorem dX10_init_86 : decode cX10_init 86 = .ok (.sipush 400, 3) := by decide +kernel
theorem dX10_init_89 : decode cX10_init 89 = .ok (.newarray .boolean, 2) := by decide +kernel
theorem dX10_init_91 : decode cX10_init 91 = .ok (.putfield 41, 3) := by decide +kernel
theorem dX10_init_94 : decode cX10_init 94 = .ok (.aload_n 0, 1) := by decide +kernel
theorem dX10_init_95 : decode cX10_init 95 = .ok (.sipush 400, 3) := by decide +kernel
theorem dX10_init_98 : decode cX10_init 98 = .ok (.newarray .int, 2) := by decide +kernel
theorem dX10_init_100 : decode cX10_init 100 = .ok (.putfield 44, 3) := by decide +kernel
theorem dX10_init_103 : decode cX10_init 103 = .ok (.aload_n 0, 1) := by decide +kernel
theorem dX10_init_104 : decode cX10_init 104 = .ok (.sipush 400, 3) := by decide +kernel
theorem dX10_init_107 : decode cX10_init 107 = .ok (.newarray .int, 2) := by decide +kernel
theorem dX10_init_109 : decode cX10_init 109 = .ok (.putfield 47, 3) := by decide +kernel
theorem dX10_init_112 : decode cX10_init 112 = .ok (.aload_n 0, 1) := by decide +kernel
theorem dX10_init_113 : decode cX10_init 113 = .ok (.bipush 40, 2) := by decide +kernel
theorem dX10_init_115 : decode cX10_init 115 = .ok (.newarray .int, 2) := by decide +kernel
theorem dX10_init_117 : decode cX10_init 117 = .ok (.putfield 50, 3) := by decide +kernel
theorem dX10_init_120 : decode cX10_init 120 = .ok (.aload_n 0, 1) := by decide +kernel
theorem dX10_init_121 : decode cX10_init 121 = .ok (.bipush 50, 2) := by decide +kernel
theorem dX10_init_123 : decode cX10_init 123 = .ok (.newarray .int, 2) := by decide +kernel
theorem dX10_init_125 : decode cX10_init 125 = .ok (.putfield 53, 3) := by decide +kernel
theorem dX10_init_128 : decode cX10_init 128 = .ok (.aload_n 0, 1) := by decide +kernel
theorem dX10_init_129 : decode cX10_init 129 = .ok (.iconst 2, 1) := by decide +kernel
theorem dX10_init_130 : decode cX10_init 130 = .ok (.newarray .int, 2) := by decide +kernel
theorem dX10_init_132 : decode cX10_init 132 = .ok (.putfield 56, 3) := by decide +kernel
theorem dX10_init_135 : decode cX10_init 135 = .ok (.aload_n 0, 1) := by decide +kernel
theorem dX10_init_136 : decode cX10_init 136 = .ok (.sipush 240, 3) := by decide +kernel
theorem dX10_init_139 : decode cX10_init 139 = .ok (.newarray .int, 2) := by decide +kernel
theorem dX10_init_141 : decode cX10_init 141 = .ok (.putfield 59, 3) := by decide +kernel
theorem dX10_init_144 : decode cX10_init 144 = .ok (.aload_n 0, 1) := by decide +kernel
theorem dX10_init_145 : decode cX10_init 145 = .ok (.bipush 8, 2) := by decide +kernel
theorem dX10_init_147 : decode cX10_init 147 = .ok (.newarray .int, 2) := by decide +kernel
theorem dX10_init_149 : decode cX10_init 149 = .ok (.putfield 62, 3) := by decide +kernel
theorem dX10_init_152 : decode cX10_init 152 = .ok (.aload_n 0, 1) := by decide +kernel
theorem dX10_init_153 : decode cX10_init 153 = .ok (.bipush 8, 2) := by decide +kernel
theorem dX10_init_155 : decode cX10_init 155 = .ok (.newarray .int, 2) := by decide +kernel
theorem dX10_init_157 : decode cX10_init 157 = .ok (.putfield 65, 3) := by decide +kernel
theorem dX10_init_160 : decode cX10_init 160 = .ok (.aload_n 0, 1) := by decide +kernel
theorem dX10_init_161 : decode cX10_init 161 = .ok (.bipush 12, 2) := by decide +kernel
theorem dX10_init_163 : decode cX10_init 163 = .ok (.newarray .int, 2) := by decide +kernel
theorem dX10_init_165 : decode cX10_init 165 = .ok (.putfield 68, 3) := by decide +kernel
theorem dX10_init_168 : decode cX10_init 168 = .ok (.aload_n 0, 1) := by decide +kernel
theorem dX10_init_169 : decode cX10_init 169 = .ok (.bipush 12, 2) := by decide +kernel
theorem dX10_init_171 : decode cX10_init 171 = .ok (.newarray .int, 2) := by decide +kernel
theorem dX10_init_173 : decode cX10_init 173 = .ok (.putfield 71, 3) := by decide +kernel
theorem dX10_init_176 : decode cX10_init 176 = .ok (.aload_n 0, 1) := by decide +kernel
theorem dX10_init_177 : decode cX10_init 177 = .ok (.bipush 12, 2) := by decide +kernel
theorem dX10_init_179 : decode cX10_init 179 = .ok (.newarray .int, 2) := by decide +kernel
theorem dX10_init_181 : decode cX10_init 181 = .ok (.putfield 74, 3) := by decide +kernel
theorem dX10_init_184 : decode cX10_init 184 = .ok (.aload_n 0, 1) := by decide +kernel
theorem dX10_init_185 : decode cX10_init 185 = .ok (.bipush 12, 2) := by decide +kernel
theorem dX10_init_187 : decode cX10_init 187 = .ok (.newarray .int, 2) := by decide +kernel
theorem dX10_init_189 : decode cX10_init 189 = .ok (.putfield 77, 3) := by decide +kernel
theorem dX10_init_192 : decode cX10_init 192 = .ok (.aload_n 0, 1) := by decide +kernel
theorem dX10_init_193 : decode cX10_init 193 = .ok (.bipush 6, 2) := by decide +kernel
theorem dX10_init_195 : decode cX10_init 195 = .ok (.newarray .int, 2) := by decide +kernel
theorem dX10_init_197 : decode cX10_init 197 = .ok (.putfield 80, 3) := by decide +kernel
theorem dX10_init_200 : decode cX10_init 200 = .ok (.aload_n 0, 1) := by decide +kernel
theorem dX10_init_201 : decode cX10_init 201 = .ok (.iconst 5, 1) := by decide +kernel
theorem dX10_init_202 : decode cX10_init 202 = .ok (.newarray .int, 2) := by decide +kernel
theorem dX10_init_204 : decode cX10_init 204 = .ok (.putfield 83, 3) := by decide +kernel
theorem dX10_init_207 : decode cX10_init 207 = .ok (.aload_n 0, 1) := by decide +kernel
theorem dX10_init_208 : decode cX10_init 208 = .ok (.iconst 5, 1) := by decide +kernel
theorem dX10_init_209 : decode cX10_init 209 = .ok (.newarray .int, 2) := by decide +kernel
theorem dX10_init_211 : decode cX10_init 211 = .ok (.putfield 86, 3) := by decide +kernel
theorem dX10_init_214 : decode cX10_init 214 = .ok (.aload_n 0, 1) := by decide +kernel
theorem dX10_init_215 : decode cX10_init 215 = .ok (.sipush 900, 3) := by decide +kernel
theorem dX10_init_218 : decode cX10_init 218 = .ok (.newarray .int, 2) := by decide +kernel
theorem dX10_init_220 : decode cX10_init 220 = .ok (.putfield 89, 3) := by decide +kernel
theorem dX10_init_223 : decode cX10_init 223 = .ok (.aload_n 0, 1) := by decide +kernel
theorem dX10_init_224 : decode cX10_init 224 = .ok (.getfield 29, 3) := by decide +kernel
theorem dX10_init_227 : decode cX10_init 227 = .ok (.iconst 0, 1) := by decide +kernel
theorem dX10_init_228 : decode cX10_init 228 = .ok (.iconst 2, 1) := by decide +kernel
theorem dX10_init_229 : decode cX10_init 229 = .ok (.iastore, 1) := by decide +kernel
theorem dX10_init_230 : decode cX10_init 230 = .ok (.aload_n 0, 1) := by decide +kernel
theorem dX10_init_231 : decode cX10_init 231 = .ok (.getfield 29, 3) := by decide +kernel
theorem dX10_init_234 : decode cX10_init 234 = .ok (.iconst 1, 1) := by decide +kernel
theorem dX10_init_235 : decode cX10_init 235 = .ok (.iconst 1, 1) := by decide +kernel
theorem dX10_init_236 : decode cX10_init 236 = .ok (.iastore, 1) := by decide +kernel
theorem dX10_init_237 : decode cX10_init 237 = .ok (.aload_n 0, 1) := by decide +kernel
theorem dX10_init_238 : decode cX10_init 238 = .ok (.getfield 29, 3) := by decide +kernel
theorem dX10_init_241 : decode cX10_init 241 = .ok (.iconst 2, 1) := by decide +kernel
theorem dX10_init_242 : decode cX10_init 242 = .ok (.iconst 1, 1) := by decide +kernel
theorem dX10_init_243 : decode cX10_init 243 = .ok (.iastore, 1) := by decide +kernel
theorem dX10_init_244 : decode cX10_init 244 = .ok (.aload_n 0, 1) := by decide +kernel
theorem dX10_init_245 : decode cX10_init 245 = .ok (.getfield 29, 3) := by decide +kernel
theorem dX10_init_248 : decode cX10_init 248 = .ok (.iconst 3, 1) := by decide +kernel
theorem dX10_init_249 : decode cX10_init 249 = .ok (.iconst 1, 1) := by decide +kernel
theorem dX10_init_250 : decode cX10_init 250 = .ok (.iastore, 1) := by decide +kernel
theorem dX10_init_251 : decode cX10_init 251 = .ok (.aload_n 0, 1) := by decide +kernel
theorem dX10_init_252 : decode cX10_init 252 = .ok (.getfield 29, 3) := by decide +kernel
theorem dX10_init_255 : decode cX10_init 255 = .ok (.iconst 5, 1) := by decide +kernel
theorem dX10_init_256 : decode cX10_init 256 = .ok (.iconst 5, 1) := by decide +kernel
theorem dX10_init_257 : decode cX10_init 257 = .ok (.iastore, 1) := by decide +kernel
theorem dX10_init_258 : decode cX10_init 258 = .ok (.aload_n 0, 1) := by decide +kernel
theorem dX10_init_259 : decode cX10_init 259 = .ok (.getfield 29, 3) := by decide +kernel
theorem dX10_init_262 : decode cX10_init 262 = .ok (.bipush 6, 2) := by decide +kernel
theorem dX10_init_264 : decode cX10_init 264 = .ok (.iconst 2, 1) := by decide +kernel
theorem dX10_init_265 : decode cX10_init 265 = .ok (.iastore, 1) := by decide +kernel
theorem dX10_init_266 : decode cX10_init 266 = .ok (.return_, 1) := by decide +kernel
theorem dX10_in_0 : decode cX10_in 0 = .ok (.iload_n 0, 1) := by decide +kernel
theorem dX10_in_1 : decode cX10_in 1 = .ok (.iload_n 1, 1) := by decide +kernel
theorem dX10_in_2 : decode cX10_in 2 = .ok (.if_icmp .lt 12, 3) := by decide +kernel
theorem dX10_in_5 : decode cX10_in 5 = .ok (.iload_n 0, 1) := by decide +kernel
theorem dX10_in_6 : decode cX10_in 6 = .ok (.iload_n 2, 1) := by decide +kernel
theorem dX10_in_7 : decode cX10_in 7 = .ok (.if_icmp .gt 7, 3) := by decide +kernel
theorem dX10_in_10 : decode cX10_in 10 = .ok (.iconst 1, 1) := by decide +kernel
theorem dX10_in_11 : decode cX10_in 11 = .ok (.goto 4, 3) := by decide +kernel
theorem dX10_in_14 : decode cX10_in 14 = .ok (.iconst 0, 1) := by decide +kernel
theorem dX10_in_15 : decode cX10_in 15 = .ok (.ireturn, 1) := by decide +kernel
set_option maxRecDepth 20000 in
theorem ggX10_isKind_X10_in : GoodIn wsX10_isKind wsX10_in := goodIn_r _ [5] (by decide +kernel) (by decide +kernel)
set_option maxRecDepth 20000 in
theorem gX10_isKind_X10_in : GoodIn wsX10_isKind (va_wsS RX10 96 yX10_in wsX10_in) := goodIn_app (goodIn_of _ (by decide +kernel)) ggX10_isKind_X10_in
theorem dX10_isKind_0 : decode cX10_isKind 0 = .ok (.iload_n 1, 1) := by decide +kernel
theorem dX10_isKind_1 : decode cX10_isKind 1 = .ok (.iconst 0, 1) := by decide +kernel
theorem dX10_isKind_2 : decode cX10_isKind 2 = .ok (.aload_n 0, 1) := by decide +kernel
theorem dX10_isKind_3 : decode cX10_isKind 3 = .ok (.getfield 92, 3) := by decide +kernel
theorem dX10_isKind_6 : decode cX10_isKind 6 = .ok (.iconst 1, 1) := by decide +kernel
theorem dX10_isKind_7 : decode cX10_isKind 7 = .ok (.isub, 1) := by decide +kernel
theorem dX10_isKind_8 : decode cX10_isKind 8 = .ok (.invokestatic 96, 3) := by decide +kernel
theorem dX10_isKind_11 : decode cX10_isKind 11 = .ok (.ireturn, 1) := by decide +kernel
set_option maxRecDepth 20000 in
theorem ggX10_isRecipe_X10_in : GoodIn wsX10_isRecipe wsX10_in := goodIn_r _ [5] (by decide +kernel) (by decide +kernel)
set_option maxRecDepth 20000 in
theorem gX10_isRecipe_X10_in : GoodIn wsX10_isRecipe (va_wsS RX10 96 yX10_in wsX10_in) := goodIn_app (goodIn_of _ (by decide +kernel)) ggX10_isRecipe_X10_in
theorem dX10_isRecipe_0 : decode cX10_isRecipe 0 = .ok (.iload_n 1, 1) := by decide +kernel
theorem dX10_isRecipe_1 : decode cX10_isRecipe 1 = .ok (.iconst 0, 1) := by decide +kernel
theorem dX10_isRecipe_2 : decode cX10_isRecipe 2 = .ok (.aload_n 0, 1) := by decide +kernel
theorem dX10_isRecipe_3 : decode cX10_isRecipe 3 = .ok (.getfield 100, 3) := by decide +kernel
theorem dX10_isRecipe_6 : decode cX10_isRecipe 6 = .ok (.iconst 1, 1) := by decide +kernel
theorem dX10_isRecipe_7 : decode cX10_isRecipe 7 = .ok (.isub, 1) := by decide +kernel
theorem dX10_isRecipe_8 : decode cX10_isRecipe 8 = .ok (.invokestatic 96, 3) := by decide +kernel
theorem dX10_isRecipe_11 : decode cX10_isRecipe 11 = .ok (.ireturn, 1) := by decide +kernel
set_option maxRecDepth 20000 in
theorem ggX10_isBar_X10_in : GoodIn wsX10_isBar wsX10_in := goodIn_r _ [4] (by decide +kernel) (by decide +kernel)
set_option maxRecDepth 20000 in
theorem gX10_isBar_X10_in : GoodIn wsX10_isBar (va_wsS RX10 96 yX10_in wsX10_in) := goodIn_app (goodIn_of _ (by decide +kernel)) ggX10_isBar_X10_in
theorem dX10_isBar_0 : decode cX10_isBar 0 = .ok (.iload_n 0, 1) := by decide +kernel
theorem dX10_isBar_1 : decode cX10_isBar 1 = .ok (.iconst 0, 1) := by decide +kernel
theorem dX10_isBar_2 : decode cX10_isBar 2 = .ok (.iconst 1, 1) := by decide +kernel
theorem dX10_isBar_3 : decode cX10_isBar 3 = .ok (.invokestatic 96, 3) := by decide +kernel
theorem dX10_isBar_6 : decode cX10_isBar 6 = .ok (.ireturn, 1) := by decide +kernel
set_option maxRecDepth 20000 in
theorem ggX10_kind_X10_in : GoodIn wsX10_kind wsX10_in := goodIn_r _ [8] (by decide +kernel) (by decide +kernel)
set_option maxRecDepth 20000 in
theorem gX10_kind_X10_in : GoodIn wsX10_kind (va_wsS RX10 96 yX10_in wsX10_in) := goodIn_app (goodIn_of _ (by decide +kernel)) ggX10_kind_X10_in
theorem dX10_kind_0 : decode cX10_kind 0 = .ok (.iload_n 1, 1) := by decide +kernel
theorem dX10_kind_1 : decode cX10_kind 1 = .ok (.iconst 0, 1) := by decide +kernel
theorem dX10_kind_2 : decode cX10_kind 2 = .ok (.sipush 2000, 3) := by decide +kernel
theorem dX10_kind_5 : decode cX10_kind 5 = .ok (.invokestatic 96, 3) := by decide +kernel
theorem dX10_kind_8 : decode cX10_kind 8 = .ok (.ifCond .eq 27, 3) := by decide +kernel
theorem dX10_kind_11 : decode cX10_kind 11 = .ok (.iload_n 2, 1) := by decide +kernel
theorem dX10_kind_12 : decode cX10_kind 12 = .ok (.bipush 100, 2) := by decide +kernel
theorem dX10_kind_14 : decode cX10_kind 14 = .ok (.sipush 2000, 3) := by decide +kernel
theorem dX10_kind_17 : decode cX10_kind 17 = .ok (.invokestatic 96, 3) := by decide +kernel
theorem dX10_kind_20 : decode cX10_kind 20 = .ok (.ifCond .eq 15, 3) := by decide +kernel
theorem dX10_kind_23 : decode cX10_kind 23 = .ok (.iload_n 3, 1) := by decide +kernel
theorem dX10_kind_24 : decode cX10_kind 24 = .ok (.bipush 50, 2) := by decide +kernel
theorem dX10_kind_26 : decode cX10_kind 26 = .ok (.sipush 150, 3) := by decide +kernel
theorem dX10_kind_29 : decode cX10_kind 29 = .ok (.invokestatic 96, 3) := by decide +kernel
theorem dX10_kind_32 : decode cX10_kind 32 = .ok (.ifCond .ne 5, 3) := by decide +kernel
theorem dX10_kind_35 : decode cX10_kind 35 = .ok (.iconst (-1), 1) := by decide +kernel
theorem dX10_kind_36 : decode cX10_kind 36 = .ok (.ireturn, 1) := by decide +kernel
theorem dX10_kind_37 : decode cX10_kind 37 = .ok (.aload_n 0, 1) := by decide +kernel
theorem dX10_kind_38 : decode cX10_kind 38 = .ok (.getfield 92, 3) := by decide +kernel
theorem dX10_kind_41 : decode cX10_kind 41 = .ok (.bipush 10, 2) := by decide +kernel
theorem dX10_kind_43 : decode cX10_kind 43 = .ok (.if_icmp .ne 6, 3) := by decide +kernel
theorem dX10_kind_46 : decode cX10_kind 46 = .ok (.bipush (-3), 2) := by decide +kernel
theorem dX10_kind_48 : decode cX10_kind 48 = .ok (.ireturn, 1) := by decide +kernel
theorem dX10_kind_49 : decode cX10_kind 49 = .ok (.aload_n 0, 1) := by decide +kernel
theorem dX10_kind_50 : decode cX10_kind 50 = .ok (.getfield 7, 3) := by decide +kernel
theorem dX10_kind_53 : decode cX10_kind 53 = .ok (.aload_n 0, 1) := by decide +kernel
theorem dX10_kind_54 : decode cX10_kind 54 = .ok (.getfield 92, 3) := by decide +kernel
theorem dX10_kind_57 : decode cX10_kind 57 = .ok (.iload_n 1, 1) := by decide +kernel
theorem dX10_kind_58 : decode cX10_kind 58 = .ok (.iastore, 1) := by decide +kernel
theorem dX10_kind_59 : decode cX10_kind 59 = .ok (.aload_n 0, 1) := by decide +kernel
theorem dX10_kind_60 : decode cX10_kind 60 = .ok (.getfield 13, 3) := by decide +kernel
theorem dX10_kind_63 : decode cX10_kind 63 = .ok (.aload_n 0, 1) := by decide +kernel
theorem dX10_kind_64 : decode cX10_kind 64 = .ok (.getfield 92, 3) := by decide +kernel
theorem dX10_kind_67 : decode cX10_kind 67 = .ok (.iload_n 2, 1) := by decide +kernel
theorem dX10_kind_68 : decode cX10_kind 68 = .ok (.iastore, 1) := by decide +kernel
theorem dX10_kind_69 : decode cX10_kind 69 = .ok (.aload_n 0, 1) := by decide +kernel
theorem dX10_kind_70 : decode cX10_kind 70 = .ok (.getfield 16, 3) := by decide +kernel
theorem dX10_kind_73 : decode cX10_kind 73 = .ok (.aload_n 0, 1) := by decide +kernel
theorem dX10_kind_74 : decode cX10_kind 74 = .ok (.getfield 92, 3) := by decide +kernel
theorem dX10_kind_77 : decode cX10_kind 77 = .ok (.iload_n 3, 1) := by decide +kernel
theorem dX10_kind_78 : decode cX10_kind 78 = .ok (.iastore, 1) := by decide +kernel
theorem dX10_kind_79 : decode cX10_kind 79 = .ok (.aload_n 0, 1) := by decide +kernel
theorem dX10_kind_80 : decode cX10_kind 80 = .ok (.dup, 1) := by decide +kernel
theorem dX10_kind_81 : decode cX10_kind 81 = .ok (.getfield 92, 3) := by decide +kernel
theorem dX10_kind_84 : decode cX10_kind 84 = .ok (.iconst 1, 1) := by decide +kernel
theorem dX10_kind_85 : decode cX10_kind 85 = .ok (.iadd, 1) := by decide +kernel
theorem dX10_kind_86 : decode cX10_kind 86 = .ok (.putfield 92, 3) := by decide +kernel
theorem dX10_kind_89 : decode cX10_kind 89 = .ok (.aload_n 0, 1) := by decide +kernel
theorem dX10_kind_90 : decode cX10_kind 90 = .ok (.getfield 92, 3) := by decide +kernel
theorem dX10_kind_93 : decode cX10_kind 93 = .ok (.iconst 1, 1) := by decide +kernel
theorem dX10_kind_94 : decode cX10_kind 94 = .ok (.isub, 1) := by decide +kernel
theorem dX10_kind_95 : decode cX10_kind 95 = .ok (.ireturn, 1) := by decide +kernel
set_option maxRecDepth 20000 in
theorem ggX10_recipe_X10_in : GoodIn wsX10_recipe wsX10_in := goodIn_r _ [6] (by decide +kernel) (by decide +kernel)
set_option maxRecDepth 20000 in
theorem gX10_recipe_X10_in : GoodIn wsX10_recipe (va_wsS RX10 96 yX10_in wsX10_in) := goodIn_app (goodIn_of _ (by decide +kernel)) ggX10_recipe_X10_in
theorem dX10_recipe_0 : decode cX10_recipe 0 = .ok (.iload_n 1, 1) := by decide +kernel
theorem dX10_recipe_1 : decode cX10_recipe 1 = .ok (.iconst 0, 1) := by decide +kernel
theorem dX10_recipe_2 : decode cX10_recipe 2 = .ok (.sipush 10000, 3) := by decide +kernel
theorem dX10_recipe_5 : decode cX10_recipe 5 = .ok (.invokestatic 96, 3) := by decide +kernel
theorem dX10_recipe_8 : decode cX10_recipe 8 = .ok (.ifCond .ne 5, 3) := by decide +kernel
theorem dX10_recipe_11 : decode cX10_recipe 11 = .ok (.iconst (-1), 1) := by decide +kernel
theorem dX10_recipe_12 : decode cX10_recipe 12 = .ok (.ireturn, 1) := by decide +kernel
theorem dX10_recipe_13 : decode cX10_recipe 13 = .ok (.aload_n 0, 1) := by decide +kernel
theorem dX10_recipe_14 : decode cX10_recipe 14 = .ok (.getfield 100, 3) := by decide +kernel
theorem dX10_recipe_17 : decode cX10_recipe 17 = .ok (.bipush 12, 2) := by decide +kernel
theorem dX10_recipe_19 : decode cX10_recipe 19 = .ok (.if_icmp .ne 6, 3) := by decide +kernel
theorem dX10_recipe_22 : decode cX10_recipe 22 = .ok (.bipush (-3), 2) := by decide +kernel
theorem dX10_recipe_24 : decode cX10_recipe 24 = .ok (.ireturn, 1) := by decide +kernel
theorem dX10_recipe_25 : decode cX10_recipe 25 = .ok (.aload_n 0, 1) := by decide +kernel
theorem dX10_recipe_26 : decode cX10_recipe 26 = .ok (.getfield 19, 3) := by decide +kernel
theorem dX10_recipe_29 : decode cX10_recipe 29 = .ok (.aload_n 0, 1) := by decide +kernel
theorem dX10_recipe_30 : decode cX10_recipe 30 = .ok (.getfield 100, 3) := by decide +kernel
theorem dX10_recipe_33 : decode cX10_recipe 33 = .ok (.iload_n 1, 1) := by decide +kernel
theorem dX10_recipe_34 : decode cX10_recipe 34 = .ok (.iastore, 1) := by decide +kernel
theorem dX10_recipe_35 : decode cX10_recipe 35 = .ok (.aload_n 0, 1) := by decide +kernel
theorem dX10_recipe_36 : decode cX10_recipe 36 = .ok (.dup, 1) := by decide +kernel
theorem dX10_recipe_37 : decode cX10_recipe 37 = .ok (.getfield 100, 3) := by decide +kernel
theorem dX10_recipe_40 : decode cX10_recipe 40 = .ok (.iconst 1, 1) := by decide +kernel
theorem dX10_recipe_41 : decode cX10_recipe 41 = .ok (.iadd, 1) := by decide +kernel
theorem dX10_recipe_42 : decode cX10_recipe 42 = .ok (.putfield 100, 3) := by decide +kernel
theorem dX10_recipe_45 : decode cX10_recipe 45 = .ok (.aload_n 0, 1) := by decide +kernel
theorem dX10_recipe_46 : decode cX10_recipe 46 = .ok (.getfield 100, 3) := by decide +kernel
theorem dX10_recipe_49 : decode cX10_recipe 49 = .ok (.iconst 1, 1) := by decide +kernel
theorem dX10_recipe_50 : decode cX10_recipe 50 = .ok (.isub, 1) := by decide +kernel
theorem dX10_recipe_51 : decode cX10_recipe 51 = .ok (.ireturn, 1) := by decide +kernel
set_option maxRecDepth 20000 in
theorem ggX10_part_X10_isRecipe : GoodIn wsX10_part wsX10_isRecipe := goodIn_r _ [7, 8, 9, 10, 6, 11, 17, 18, 19, 20, 21, 22, 23, 24, 25, 26, 27, 28, 29, 30, 31, 32, 33, 34, 35, 36, 37, 38, 39, 40, 41, 42, 43, 44, 45, 46, 47, 48, 49, 50] (by decide +kernel) (by decide +kernel)
set_option maxRecDepth 20000 in
theorem gX10_part_X10_isRecipe : GoodIn wsX10_part (wsV RX10 103 RX10 yX10_isRecipe wsX10_isRecipe) := goodIn_app (goodIn_of _ (by decide +kernel)) ggX10_part_X10_isRecipe
set_option maxRecDepth 20000 in
theorem ggX10_part_X10_isKind : GoodIn wsX10_part wsX10_isKind := goodIn_r _ [15, 16, 9, 10, 6, 11, 17, 18, 19, 20, 21, 22, 23, 24, 25, 26, 27, 28, 29, 30, 31, 32, 33, 34, 35, 36, 37, 38, 39, 40, 41, 42, 43, 44, 45, 46, 47, 48, 49, 50] (by decide +kernel) (by decide +kernel)
set_option maxRecDepth 20000 in
theorem gX10_part_X10_isKind : GoodIn wsX10_part (wsV RX10 107 RX10 yX10_isKind wsX10_isKind) := goodIn_app (goodIn_of _ (by decide +kernel)) ggX10_part_X10_isKind
set_option maxRecDepth 20000 in
theorem ggX10_part_X10_in : GoodIn wsX10_part wsX10_in := goodIn_r _ [11] (by decide +kernel) (by decide +kernel)
set_option maxRecDepth 20000 in
theorem gX10_part_X10_in : GoodIn wsX10_part (va_wsS RX10 96 yX10_in wsX10_in) := goodIn_app (goodIn_of _ (by decide +kernel)) ggX10_part_X10_in
theorem dX10_part_0 : decode cX10_part 0 = .ok (.aload_n 0, 1) := by decide +kernel
theorem dX10_part_1 : decode cX10_part 1 = .ok (.iload_n 1, 1) := by decide +kernel
theorem dX10_part_2 : decode cX10_part 2 = .ok (.invokevirtual 103, 3) := by decide +kernel
theorem dX10_part_5 : decode cX10_part 5 = .ok (.ifCond .eq 21, 3) := by decide +kernel
theorem dX10_part_8 : decode cX10_part 8 = .ok (.aload_n 0, 1) := by decide +kernel
theorem dX10_part_9 : decode cX10_part 9 = .ok (.iload_n 2, 1) := by decide +kernel
theorem dX10_part_10 : decode cX10_part 10 = .ok (.invokevirtual 107, 3) := by decide +kernel
theorem dX10_part_13 : decode cX10_part 13 = .ok (.ifCond .eq 13, 3) := by decide +kernel
theorem dX10_part_16 : decode cX10_part 16 = .ok (.iload_n 3, 1) := by decide +kernel
theorem dX10_part_17 : decode cX10_part 17 = .ok (.iconst 0, 1) := by decide +kernel
theorem dX10_part_18 : decode cX10_part 18 = .ok (.bipush 20, 2) := by decide +kernel
theorem dX10_part_20 : decode cX10_part 20 = .ok (.invokestatic 96, 3) := by decide +kernel
theorem dX10_part_23 : decode cX10_part 23 = .ok (.ifCond .ne 5, 3) := by decide +kernel
theorem dX10_part_26 : decode cX10_part 26 = .ok (.iconst (-1), 1) := by decide +kernel
theorem dX10_part_27 : decode cX10_part 27 = .ok (.ireturn, 1) := by decide +kernel
theorem dX10_part_28 : decode cX10_part 28 = .ok (.aload_n 0, 1) := by decide +kernel
theorem dX10_part_29 : decode cX10_part 29 = .ok (.getfield 25, 3) := by decide +kernel
theorem dX10_part_32 : decode cX10_part 32 = .ok (.iload_n 1, 1) := by decide +kernel
theorem dX10_part_33 : decode cX10_part 33 = .ok (.baload, 1) := by decide +kernel
theorem dX10_part_34 : decode cX10_part 34 = .ok (.ifCond .eq 6, 3) := by decide +kernel
theorem dX10_part_37 : decode cX10_part 37 = .ok (.bipush (-2), 2) := by decide +kernel
theorem dX10_part_39 : decode cX10_part 39 = .ok (.ireturn, 1) := by decide +kernel
theorem dX10_part_40 : decode cX10_part 40 = .ok (.aload_n 0, 1) := by decide +kernel
theorem dX10_part_41 : decode cX10_part 41 = .ok (.getfield 22, 3) := by decide +kernel
theorem dX10_part_44 : decode cX10_part 44 = .ok (.bipush 10, 2) := by decide +kernel
theorem dX10_part_46 : decode cX10_part 46 = .ok (.iload_n 1, 1) := by decide +kernel
theorem dX10_part_47 : decode cX10_part 47 = .ok (.imul, 1) := by decide +kernel
theorem dX10_part_48 : decode cX10_part 48 = .ok (.iload_n 2, 1) := by decide +kernel
theorem dX10_part_49 : decode cX10_part 49 = .ok (.iadd, 1) := by decide +kernel
theorem dX10_part_50 : decode cX10_part 50 = .ok (.iaload, 1) := by decide +kernel
theorem dX10_part_51 : decode cX10_part 51 = .ok (.istore 4, 2) := by decide +kernel
theorem dX10_part_53 : decode cX10_part 53 = .ok (.aload_n 0, 1) := by decide +kernel
theorem dX10_part_54 : decode cX10_part 54 = .ok (.getfield 22, 3) := by decide +kernel
theorem dX10_part_57 : decode cX10_part 57 = .ok (.bipush 10, 2) := by decide +kernel
theorem dX10_part_59 : decode cX10_part 59 = .ok (.iload_n 1, 1) := by decide +kernel
theorem dX10_part_60 : decode cX10_part 60 = .ok (.imul, 1) := by decide +kernel
theorem dX10_part_61 : decode cX10_part 61 = .ok (.iload_n 2, 1) := by decide +kernel
theorem dX10_part_62 : decode cX10_part 62 = .ok (.iadd, 1) := by decide +kernel
theorem dX10_part_63 : decode cX10_part 63 = .ok (.iload_n 3, 1) := by decide +kernel
theorem dX10_part_64 : decode cX10_part 64 = .ok (.iastore, 1) := by decide +kernel
theorem dX10_part_65 : decode cX10_part 65 = .ok (.iload 4, 2) := by decide +kernel
theorem dX10_part_67 : decode cX10_part 67 = .ok (.ireturn, 1) := by decide +kernel
theorem dX10_top_0 : decode cX10_top 0 = .ok (.iload_n 0, 1) := by decide +kernel
theorem dX10_top_1 : decode cX10_top 1 = .ok (.ifCond .ne 8, 3) := by decide +kernel
theorem dX10_top_4 : decode cX10_top 4 = .ok (.bipush 50, 2) := by decide +kernel
theorem dX10_top_6 : decode cX10_top 6 = .ok (.goto 46, 3) := by decide +kernel
theorem dX10_top_9 : decode cX10_top 9 = .ok (.iload_n 0, 1) := by decide +kernel
theorem dX10_top_10 : decode cX10_top 10 = .ok (.iconst 1, 1) := by decide +kernel
theorem dX10_top_11 : decode cX10_top 11 = .ok (.if_icmp .ne 8, 3) := by decide +kernel
theorem dX10_top_14 : decode cX10_top 14 = .ok (.bipush 20, 2) := by decide +kernel
theorem dX10_top_16 : decode cX10_top 16 = .ok (.goto 36, 3) := by decide +kernel
theorem dX10_top_19 : decode cX10_top 19 = .ok (.iload_n 0, 1) := by decide +kernel
theorem dX10_top_20 : decode cX10_top 20 = .ok (.iconst 4, 1) := by decide +kernel
theorem dX10_top_21 : decode cX10_top 21 = .ok (.if_icmp .ge 8, 3) := by decide +kernel
theorem dX10_top_24 : decode cX10_top 24 = .ok (.bipush 100, 2) := by decide +kernel
theorem dX10_top_26 : decode cX10_top 26 = .ok (.goto 26, 3) := by decide +kernel
theorem dX10_top_29 : decode cX10_top 29 = .ok (.iload_n 0, 1) := by decide +kernel
theorem dX10_top_30 : decode cX10_top 30 = .ok (.iconst 4, 1) := by decide +kernel
theorem dX10_top_31 : decode cX10_top 31 = .ok (.if_icmp .ne 9, 3) := by decide +kernel
theorem dX10_top_34 : decode cX10_top 34 = .ok (.sipush 10000, 3) := by decide +kernel
theorem dX10_top_37 : decode cX10_top 37 = .ok (.goto 15, 3) := by decide +kernel
theorem dX10_top_40 : decode cX10_top 40 = .ok (.iload_n 0, 1) := by decide +kernel
theorem dX10_top_41 : decode cX10_top 41 = .ok (.iconst 5, 1) := by decide +kernel
theorem dX10_top_42 : decode cX10_top 42 = .ok (.if_icmp .ne 8, 3) := by decide +kernel
theorem dX10_top_45 : decode cX10_top 45 = .ok (.bipush 50, 2) := by decide +kernel
theorem dX10_top_47 : decode cX10_top 47 = .ok (.goto 5, 3) := by decide +kernel
theorem dX10_top_50 : decode cX10_top 50 = .ok (.bipush 10, 2) := by decide +kernel
theorem dX10_top_52 : decode cX10_top 52 = .ok (.ireturn, 1) := by decide +kernel
set_option maxRecDepth 20000 in
theorem ggX10_rule_X10_in : GoodIn wsX10_rule wsX10_in := goodIn_r _ [5] (by decide +kernel) (by decide +kernel)
set_option maxRecDepth 20000 in
theorem gX10_rule_X10_in : GoodIn wsX10_rule (va_wsS RX10 96 yX10_in wsX10_in) := goodIn_app (goodIn_of _ (by decide +kernel)) ggX10_rule_X10_in
set_option maxRecDepth 20000 in
theorem ggX10_rule_X10_top : GoodIn wsX10_rule wsX10_top := goodIn_r _ [8] (by decide +kernel) (by decide +kernel)
set_option maxRecDepth 20000 in
theorem gX10_rule_X10_top : GoodIn wsX10_rule (va_wsS RX10 110 yX10_top wsX10_top) := goodIn_app (goodIn_of _ (by decide +kernel)) ggX10_rule_X10_top
theorem dX10_rule_0 : decode cX10_rule 0 = .ok (.iload_n 1, 1) := by decide +kernel
theorem dX10_rule_1 : decode cX10_rule 1 = .ok (.iconst 0, 1) := by decide +kernel
theorem dX10_rule_2 : decode cX10_rule 2 = .ok (.bipush 6, 2) := by decide +kernel
theorem dX10_rule_4 : decode cX10_rule 4 = .ok (.invokestatic 96, 3) := by decide +kernel
theorem dX10_rule_7 : decode cX10_rule 7 = .ok (.ifCond .eq 15, 3) := by decide +kernel
theorem dX10_rule_10 : decode cX10_rule 10 = .ok (.iload_n 2, 1) := by decide +kernel
theorem dX10_rule_11 : decode cX10_rule 11 = .ok (.iconst 0, 1) := by decide +kernel
theorem dX10_rule_12 : decode cX10_rule 12 = .ok (.iload_n 1, 1) := by decide +kernel
theorem dX10_rule_13 : decode cX10_rule 13 = .ok (.invokestatic 110, 3) := by decide +kernel
theorem dX10_rule_16 : decode cX10_rule 16 = .ok (.invokestatic 96, 3) := by decide +kernel
theorem dX10_rule_19 : decode cX10_rule 19 = .ok (.ifCond .ne 5, 3) := by decide +kernel
theorem dX10_rule_22 : decode cX10_rule 22 = .ok (.iconst (-1), 1) := by decide +kernel
theorem dX10_rule_23 : decode cX10_rule 23 = .ok (.ireturn, 1) := by decide +kernel
theorem dX10_rule_24 : decode cX10_rule 24 = .ok (.aload_n 0, 1) := by decide +kernel
theorem dX10_rule_25 : decode cX10_rule 25 = .ok (.getfield 29, 3) := by decide +kernel
theorem dX10_rule_28 : decode cX10_rule 28 = .ok (.iload_n 1, 1) := by decide +kernel
theorem dX10_rule_29 : decode cX10_rule 29 = .ok (.iaload, 1) := by decide +kernel
theorem dX10_rule_30 : decode cX10_rule 30 = .ok (.istore_n 3, 1) := by decide +kernel
theorem dX10_rule_31 : decode cX10_rule 31 = .ok (.aload_n 0, 1) := by decide +kernel
theorem dX10_rule_32 : decode cX10_rule 32 = .ok (.getfield 29, 3) := by decide +kernel
theorem dX10_rule_35 : decode cX10_rule 35 = .ok (.iload_n 1, 1) := by decide +kernel
theorem dX10_rule_36 : decode cX10_rule 36 = .ok (.iload_n 2, 1) := by decide +kernel
theorem dX10_rule_37 : decode cX10_rule 37 = .ok (.iastore, 1) := by decide +kernel
theorem dX10_rule_38 : decode cX10_rule 38 = .ok (.iload_n 3, 1) := by decide +kernel
theorem dX10_rule_39 : decode cX10_rule 39 = .ok (.ireturn, 1) := by decide +kernel
theorem dX10_keeps_0 : decode cX10_keeps 0 = .ok (.aload_n 0, 1) := by decide +kernel
theorem dX10_keeps_1 : decode cX10_keeps 1 = .ok (.getfield 114, 3) := by decide +kernel
theorem dX10_keeps_4 : decode cX10_keeps 4 = .ok (.bipush 40, 2) := by decide +kernel
theorem dX10_keeps_6 : decode cX10_keeps 6 = .ok (.if_icmp .ne 48, 3) := by decide +kernel
theorem dX10_keeps_9 : decode cX10_keeps 9 = .ok (.bipush 6, 2) := by decide +kernel
theorem dX10_keeps_11 : decode cX10_keeps 11 = .ok (.istore 7, 2) := by decide +kernel
theorem dX10_keeps_13 : decode cX10_keeps 13 = .ok (.iload 7, 2) := by decide +kernel
theorem dX10_keeps_15 : decode cX10_keeps 15 = .ok (.sipush 240, 3) := by decide +kernel
theorem dX10_keeps_18 : decode cX10_keeps 18 = .ok (.if_icmp .ge 26, 3) := by decide +kernel
theorem dX10_keeps_21 : decode cX10_keeps 21 = .ok (.aload_n 0, 1) := by decide +kernel
theorem dX10_keeps_22 : decode cX10_keeps 22 = .ok (.getfield 59, 3) := by decide +kernel
theorem dX10_keeps_25 : decode cX10_keeps 25 = .ok (.iload 7, 2) := by decide +kernel
theorem dX10_keeps_27 : decode cX10_keeps 27 = .ok (.bipush 6, 2) := by decide +kernel
theorem dX10_keeps_29 : decode cX10_keeps 29 = .ok (.isub, 1) := by decide +kernel
theorem dX10_keeps_30 : decode cX10_keeps 30 = .ok (.aload_n 0, 1) := by decide +kernel
theorem dX10_keeps_31 : decode cX10_keeps 31 = .ok (.getfield 59, 3) := by decide +kernel
theorem dX10_keeps_34 : decode cX10_keeps 34 = .ok (.iload 7, 2) := by decide +kernel
theorem dX10_keeps_36 : decode cX10_keeps 36 = .ok (.iaload, 1) := by decide +kernel
theorem dX10_keeps_37 : decode cX10_keeps 37 = .ok (.iastore, 1) := by decide +kernel
theorem dX10_keeps_38 : decode cX10_keeps 38 = .ok (.iinc 7 1, 3) := by decide +kernel
theorem dX10_keeps_41 : decode cX10_keeps 41 = .ok (.goto (-28), 3) := by decide +kernel
theorem dX10_keeps_44 : decode cX10_keeps 44 = .ok (.aload_n 0, 1) := by decide +kernel
theorem dX10_keeps_45 : decode cX10_keeps 45 = .ok (.dup, 1) := by decide +kernel
theorem dX10_keeps_46 : decode cX10_keeps 46 = .ok (.getfield 114, 3) := by decide +kernel
theorem dX10_keeps_49 : decode cX10_keeps 49 = .ok (.iconst 1, 1) := by decide +kernel
theorem dX10_keeps_50 : decode cX10_keeps 50 = .ok (.isub, 1) := by decide +kernel
theorem dX10_keeps_51 : decode cX10_keeps 51 = .ok (.putfield 114, 3) := by decide +kernel
theorem dX10_keeps_54 : decode cX10_keeps 54 = .ok (.bipush 6, 2) := by decide +kernel
theorem dX10_keeps_56 : decode cX10_keeps 56 = .ok (.aload_n 0, 1) := by decide +kernel
theorem dX10_keeps_57 : decode cX10_keeps 57 = .ok (.getfield 114, 3) := by decide +kernel
theorem dX10_keeps_60 : decode cX10_keeps 60 = .ok (.imul, 1) := by decide +kernel
theorem dX10_keeps_61 : decode cX10_keeps 61 = .ok (.istore 7, 2) := by decide +kernel
theorem dX10_keeps_63 : decode cX10_keeps 63 = .ok (.aload_n 0, 1) := by decide +kernel
theorem dX10_keeps_64 : decode cX10_keeps 64 = .ok (.getfield 59, 3) := by decide +kernel
theorem dX10_keeps_67 : decode cX10_keeps 67 = .ok (.iload 7, 2) := by decide +kernel
theorem dX10_keeps_69 : decode cX10_keeps 69 = .ok (.iload_n 1, 1) := by decide +kernel
theorem dX10_keeps_70 : decode cX10_keeps 70 = .ok (.iastore, 1) := by decide +kernel
theorem dX10_keeps_71 : decode cX10_keeps 71 = .ok (.aload_n 0, 1) := by decide +kernel
theorem dX10_keeps_72 : decode cX10_keeps 72 = .ok (.getfield 59, 3) := by decide +kernel
theorem dX10_keeps_75 : decode cX10_keeps 75 = .ok (.iload 7, 2) := by decide +kernel
theorem dX10_keeps_77 : decode cX10_keeps 77 = .ok (.iconst 1, 1) := by decide +kernel
theorem dX10_keeps_78 : decode cX10_keeps 78 = .ok (.iadd, 1) := by decide +kernel
theorem dX10_keeps_79 : decode cX10_keeps 79 = .ok (.iload_n 2, 1) := by decide +kernel
theorem dX10_keeps_80 : decode cX10_keeps 80 = .ok (.iastore, 1) := by decide +kernel
theorem dX10_keeps_81 : decode cX10_keeps 81 = .ok (.aload_n 0, 1) := by decide +kernel
theorem dX10_keeps_82 : decode cX10_keeps 82 = .ok (.getfield 59, 3) := by decide +kernel
theorem dX10_keeps_85 : decode cX10_keeps 85 = .ok (.iload 7, 2) := by decide +kernel
theorem dX10_keeps_87 : decode cX10_keeps 87 = .ok (.iconst 2, 1) := by decide +kernel
theorem dX10_keeps_88 : decode cX10_keeps 88 = .ok (.iadd, 1) := by decide +kernel
theorem dX10_keeps_89 : decode cX10_keeps 89 = .ok (.iload_n 3, 1) := by decide +kernel
theorem dX10_keeps_90 : decode cX10_keeps 90 = .ok (.iastore, 1) := by decide +kernel
theorem dX10_keeps_91 : decode cX10_keeps 91 = .ok (.aload_n 0, 1) := by decide +kernel
theorem dX10_keeps_92 : decode cX10_keeps 92 = .ok (.getfield 59, 3) := by decide +kernel
theorem dX10_keeps_95 : decode cX10_keeps 95 = .ok (.iload 7, 2) := by decide +kernel
theorem dX10_keeps_97 : decode cX10_keeps 97 = .ok (.iconst 3, 1) := by decide +kernel
theorem dX10_keeps_98 : decode cX10_keeps 98 = .ok (.iadd, 1) := by decide +kernel
theorem dX10_keeps_99 : decode cX10_keeps 99 = .ok (.iload 4, 2) := by decide +kernel
theorem dX10_keeps_101 : decode cX10_keeps 101 = .ok (.iastore, 1) := by decide +kernel
theorem dX10_keeps_102 : decode cX10_keeps 102 = .ok (.aload_n 0, 1) := by decide +kernel
theorem dX10_keeps_103 : decode cX10_keeps 103 = .ok (.getfield 59, 3) := by decide +kernel
theorem dX10_keeps_106 : decode cX10_keeps 106 = .ok (.iload 7, 2) := by decide +kernel
theorem dX10_keeps_108 : decode cX10_keeps 108 = .ok (.iconst 4, 1) := by decide +kernel
theorem dX10_keeps_109 : decode cX10_keeps 109 = .ok (.iadd, 1) := by decide +kernel
theorem dX10_keeps_110 : decode cX10_keeps 110 = .ok (.iload 5, 2) := by decide +kernel
theorem dX10_keeps_112 : decode cX10_keeps 112 = .ok (.iastore, 1) := by decide +kernel
theorem dX10_keeps_113 : decode cX10_keeps 113 = .ok (.aload_n 0, 1) := by decide +kernel
theorem dX10_keeps_114 : decode cX10_keeps 114 = .ok (.getfield 59, 3) := by decide +kernel
theorem dX10_keeps_117 : decode cX10_keeps 117 = .ok (.iload 7, 2) := by decide +kernel
theorem dX10_keeps_119 : decode cX10_keeps 119 = .ok (.iconst 5, 1) := by decide +kernel
theorem dX10_keeps_120 : decode cX10_keeps 120 = .ok (.iadd, 1) := by decide +kernel
theorem dX10_keeps_121 : decode cX10_keeps 121 = .ok (.iload 6, 2) := by decide +kernel
theorem dX10_keeps_123 : decode cX10_keeps 123 = .ok (.iastore, 1) := by decide +kernel
theorem dX10_keeps_124 : decode cX10_keeps 124 = .ok (.aload_n 0, 1) := by decide +kernel
theorem dX10_keeps_125 : decode cX10_keeps 125 = .ok (.dup, 1) := by decide +kernel
theorem dX10_keeps_126 : decode cX10_keeps 126 = .ok (.getfield 114, 3) := by decide +kernel
theorem dX10_keeps_129 : decode cX10_keeps 129 = .ok (.iconst 1, 1) := by decide +kernel
theorem dX10_keeps_130 : decode cX10_keeps 130 = .ok (.iadd, 1) := by decide +kernel
theorem dX10_keeps_131 : decode cX10_keeps 131 = .ok (.putfield 114, 3) := by decide +kernel
theorem dX10_keeps_134 : decode cX10_keeps 134 = .ok (.return_, 1) := by decide +kernel
theorem dX10_at_0 : decode cX10_at 0 = .ok (.bipush 20, 2) := by decide +kernel
theorem dX10_at_2 : decode cX10_at 2 = .ok (.iload_n 0, 1) := by decide +kernel
theorem dX10_at_3 : decode cX10_at 3 = .ok (.imul, 1) := by decide +kernel
theorem dX10_at_4 : decode cX10_at 4 = .ok (.bipush 10, 2) := by decide +kernel
theorem dX10_at_6 : decode cX10_at 6 = .ok (.iload_n 1, 1) := by decide +kernel
theorem dX10_at_7 : decode cX10_at 7 = .ok (.imul, 1) := by decide +kernel
theorem dX10_at_8 : decode cX10_at 8 = .ok (.iadd, 1) := by decide +kernel
theorem dX10_at_9 : decode cX10_at 9 = .ok (.iload_n 2, 1) := by decide +kernel
theorem dX10_at_10 : decode cX10_at 10 = .ok (.iadd, 1) := by decide +kernel
theorem dX10_at_11 : decode cX10_at 11 = .ok (.ireturn, 1) := by decide +kernel
theorem dX10_receives_0 : decode cX10_receives 0 = .ok (.aload_n 0, 1) := by decide +kernel
theorem dX10_receives_1 : decode cX10_receives 1 = .ok (.getfield 32, 3) := by decide +kernel
theorem dX10_receives_4 : decode cX10_receives 4 = .ok (.iload_n 1, 1) := by decide +kernel
theorem dX10_receives_5 : decode cX10_receives 5 = .ok (.dup2, 1) := by decide +kernel
theorem dX10_receives_6 : decode cX10_receives 6 = .ok (.iaload, 1) := by decide +kernel
theorem dX10_receives_7 : decode cX10_receives 7 = .ok (.iload_n 2, 1) := by decide +kernel
theorem dX10_receives_8 : decode cX10_receives 8 = .ok (.iadd, 1) := by decide +kernel
theorem dX10_receives_9 : decode cX10_receives 9 = .ok (.iastore, 1) := by decide +kernel
theorem dX10_receives_10 : decode cX10_receives 10 = .ok (.aload_n 0, 1) := by decide +kernel
theorem dX10_receives_11 : decode cX10_receives 11 = .ok (.getfield 53, 3) := by decide +kernel
theorem dX10_receives_14 : decode cX10_receives 14 = .ok (.iconst 5, 1) := by decide +kernel
theorem dX10_receives_15 : decode cX10_receives 15 = .ok (.iload_n 1, 1) := by decide +kernel
theorem dX10_receives_16 : decode cX10_receives 16 = .ok (.imul, 1) := by decide +kernel
theorem dX10_receives_17 : decode cX10_receives 17 = .ok (.iconst 4, 1) := by decide +kernel
theorem dX10_receives_18 : decode cX10_receives 18 = .ok (.iadd, 1) := by decide +kernel
theorem dX10_receives_19 : decode cX10_receives 19 = .ok (.dup2, 1) := by decide +kernel
theorem dX10_receives_20 : decode cX10_receives 20 = .ok (.iaload, 1) := by decide +kernel
theorem dX10_receives_21 : decode cX10_receives 21 = .ok (.iload_n 2, 1) := by decide +kernel
theorem dX10_receives_22 : decode cX10_receives 22 = .ok (.iadd, 1) := by decide +kernel
theorem dX10_receives_23 : decode cX10_receives 23 = .ok (.iastore, 1) := by decide +kernel
theorem dX10_receives_24 : decode cX10_receives 24 = .ok (.return_, 1) := by decide +kernel
theorem dX10_issues_0 : decode cX10_issues 0 = .ok (.aload_n 0, 1) := by decide +kernel
theorem dX10_issues_1 : decode cX10_issues 1 = .ok (.getfield 32, 3) := by decide +kernel
theorem dX10_issues_4 : decode cX10_issues 4 = .ok (.iload_n 2, 1) := by decide +kernel
theorem dX10_issues_5 : decode cX10_issues 5 = .ok (.dup2, 1) := by decide +kernel
theorem dX10_issues_6 : decode cX10_issues 6 = .ok (.iaload, 1) := by decide +kernel
theorem dX10_issues_7 : decode cX10_issues 7 = .ok (.iload_n 3, 1) := by decide +kernel
theorem dX10_issues_8 : decode cX10_issues 8 = .ok (.isub, 1) := by decide +kernel
theorem dX10_issues_9 : decode cX10_issues 9 = .ok (.iastore, 1) := by decide +kernel
theorem dX10_issues_10 : decode cX10_issues 10 = .ok (.aload_n 0, 1) := by decide +kernel
theorem dX10_issues_11 : decode cX10_issues 11 = .ok (.getfield 35, 3) := by decide +kernel
theorem dX10_issues_14 : decode cX10_issues 14 = .ok (.bipush 10, 2) := by decide +kernel
theorem dX10_issues_16 : decode cX10_issues 16 = .ok (.iload_n 1, 1) := by decide +kernel
theorem dX10_issues_17 : decode cX10_issues 17 = .ok (.imul, 1) := by decide +kernel
theorem dX10_issues_18 : decode cX10_issues 18 = .ok (.iload_n 2, 1) := by decide +kernel
theorem dX10_issues_19 : decode cX10_issues 19 = .ok (.iadd, 1) := by decide +kernel
theorem dX10_issues_20 : decode cX10_issues 20 = .ok (.dup2, 1) := by decide +kernel
theorem dX10_issues_21 : decode cX10_issues 21 = .ok (.iaload, 1) := by decide +kernel
theorem dX10_issues_22 : decode cX10_issues 22 = .ok (.iload_n 3, 1) := by decide +kernel
theorem dX10_issues_23 : decode cX10_issues 23 = .ok (.aload_n 0, 1) := by decide +kernel
theorem dX10_issues_24 : decode cX10_issues 24 = .ok (.getfield 13, 3) := by decide +kernel
theorem dX10_issues_27 : decode cX10_issues 27 = .ok (.iload_n 2, 1) := by decide +kernel
theorem dX10_issues_28 : decode cX10_issues 28 = .ok (.iaload, 1) := by decide +kernel
theorem dX10_issues_29 : decode cX10_issues 29 = .ok (.imul, 1) := by decide +kernel
theorem dX10_issues_30 : decode cX10_issues 30 = .ok (.iadd, 1) := by decide +kernel
theorem dX10_issues_31 : decode cX10_issues 31 = .ok (.iastore, 1) := by decide +kernel
theorem dX10_issues_32 : decode cX10_issues 32 = .ok (.return_, 1) := by decide +kernel
theorem dX10_lends_0 : decode cX10_lends 0 = .ok (.aload_n 0, 1) := by decide +kernel
theorem dX10_lends_1 : decode cX10_lends 1 = .ok (.getfield 35, 3) := by decide +kernel
theorem dX10_lends_4 : decode cX10_lends 4 = .ok (.bipush 10, 2) := by decide +kernel
theorem dX10_lends_6 : decode cX10_lends 6 = .ok (.iload_n 1, 1) := by decide +kernel
theorem dX10_lends_7 : decode cX10_lends 7 = .ok (.imul, 1) := by decide +kernel
theorem dX10_lends_8 : decode cX10_lends 8 = .ok (.iload_n 2, 1) := by decide +kernel
theorem dX10_lends_9 : decode cX10_lends 9 = .ok (.iadd, 1) := by decide +kernel
theorem dX10_lends_10 : decode cX10_lends 10 = .ok (.dup2, 1) := by decide +kernel
theorem dX10_lends_11 : decode cX10_lends 11 = .ok (.iaload, 1) := by decide +kernel
theorem dX10_lends_12 : decode cX10_lends 12 = .ok (.iload_n 3, 1) := by decide +kernel
theorem dX10_lends_13 : decode cX10_lends 13 = .ok (.isub, 1) := by decide +kernel
theorem dX10_lends_14 : decode cX10_lends 14 = .ok (.iastore, 1) := by decide +kernel
theorem dX10_lends_15 : decode cX10_lends 15 = .ok (.aload_n 0, 1) := by decide +kernel
theorem dX10_lends_16 : decode cX10_lends 16 = .ok (.getfield 35, 3) := by decide +kernel
theorem dX10_lends_19 : decode cX10_lends 19 = .ok (.bipush 10, 2) := by decide +kernel
theorem dX10_lends_21 : decode cX10_lends 21 = .ok (.iconst 1, 1) := by decide +kernel
theorem dX10_lends_22 : decode cX10_lends 22 = .ok (.iload_n 1, 1) := by decide +kernel
theorem dX10_lends_23 : decode cX10_lends 23 = .ok (.isub, 1) := by decide +kernel
theorem dX10_lends_24 : decode cX10_lends 24 = .ok (.imul, 1) := by decide +kernel
theorem dX10_lends_25 : decode cX10_lends 25 = .ok (.iload_n 2, 1) := by decide +kernel
theorem dX10_lends_26 : decode cX10_lends 26 = .ok (.iadd, 1) := by decide +kernel
theorem dX10_lends_27 : decode cX10_lends 27 = .ok (.dup2, 1) := by decide +kernel
theorem dX10_lends_28 : decode cX10_lends 28 = .ok (.iaload, 1) := by decide +kernel
theorem dX10_lends_29 : decode cX10_lends 29 = .ok (.iload_n 3, 1) := by decide +kernel
theorem dX10_lends_30 : decode cX10_lends 30 = .ok (.iadd, 1) := by decide +kernel
theorem dX10_lends_31 : decode cX10_lends 31 = .ok (.iastore, 1) := by decide +kernel
theorem dX10_lends_32 : decode cX10_lends 32 = .ok (.return_, 1) := by decide +kernel
set_option maxRecDepth 20000 in
theorem ggX10_sells_X10_at : GoodIn wsX10_sells wsX10_at := goodIn_r _ [11] (by decide +kernel) (by decide +kernel)
set_option maxRecDepth 20000 in
theorem gX10_sells_X10_at : GoodIn wsX10_sells (va_wsS RX10 120 yX10_at wsX10_at) := goodIn_app (goodIn_of _ (by decide +kernel)) ggX10_sells_X10_at
theorem dX10_sells_0 : decode cX10_sells 0 = .ok (.iconst 0, 1) := by decide +kernel
theorem dX10_sells_1 : decode cX10_sells 1 = .ok (.istore 5, 2) := by decide +kernel
theorem dX10_sells_3 : decode cX10_sells 3 = .ok (.iload 5, 2) := by decide +kernel
theorem dX10_sells_5 : decode cX10_sells 5 = .ok (.aload_n 0, 1) := by decide +kernel
theorem dX10_sells_6 : decode cX10_sells 6 = .ok (.getfield 92, 3) := by decide +kernel
theorem dX10_sells_9 : decode cX10_sells 9 = .ok (.if_icmp .ge 92, 3) := by decide +kernel
theorem dX10_sells_12 : decode cX10_sells 12 = .ok (.aload_n 0, 1) := by decide +kernel
theorem dX10_sells_13 : decode cX10_sells 13 = .ok (.getfield 22, 3) := by decide +kernel
theorem dX10_sells_16 : decode cX10_sells 16 = .ok (.bipush 10, 2) := by decide +kernel
theorem dX10_sells_18 : decode cX10_sells 18 = .ok (.iload_n 2, 1) := by decide +kernel
theorem dX10_sells_19 : decode cX10_sells 19 = .ok (.imul, 1) := by decide +kernel
theorem dX10_sells_20 : decode cX10_sells 20 = .ok (.iload 5, 2) := by decide +kernel
theorem dX10_sells_22 : decode cX10_sells 22 = .ok (.iadd, 1) := by decide +kernel
theorem dX10_sells_23 : decode cX10_sells 23 = .ok (.iaload, 1) := by decide +kernel
theorem dX10_sells_24 : decode cX10_sells 24 = .ok (.istore 6, 2) := by decide +kernel
theorem dX10_sells_26 : decode cX10_sells 26 = .ok (.aload_n 0, 1) := by decide +kernel
theorem dX10_sells_27 : decode cX10_sells 27 = .ok (.getfield 35, 3) := by decide +kernel
theorem dX10_sells_30 : decode cX10_sells 30 = .ok (.bipush 10, 2) := by decide +kernel
theorem dX10_sells_32 : decode cX10_sells 32 = .ok (.iload_n 1, 1) := by decide +kernel
theorem dX10_sells_33 : decode cX10_sells 33 = .ok (.imul, 1) := by decide +kernel
theorem dX10_sells_34 : decode cX10_sells 34 = .ok (.iload 5, 2) := by decide +kernel
theorem dX10_sells_36 : decode cX10_sells 36 = .ok (.iadd, 1) := by decide +kernel
theorem dX10_sells_37 : decode cX10_sells 37 = .ok (.dup2, 1) := by decide +kernel
theorem dX10_sells_38 : decode cX10_sells 38 = .ok (.iaload, 1) := by decide +kernel
theorem dX10_sells_39 : decode cX10_sells 39 = .ok (.bipush 6, 2) := by decide +kernel
theorem dX10_sells_41 : decode cX10_sells 41 = .ok (.iload 6, 2) := by decide +kernel
theorem dX10_sells_43 : decode cX10_sells 43 = .ok (.imul, 1) := by decide +kernel
theorem dX10_sells_44 : decode cX10_sells 44 = .ok (.iload_n 3, 1) := by decide +kernel
theorem dX10_sells_45 : decode cX10_sells 45 = .ok (.imul, 1) := by decide +kernel
theorem dX10_sells_46 : decode cX10_sells 46 = .ok (.isub, 1) := by decide +kernel
theorem dX10_sells_47 : decode cX10_sells 47 = .ok (.iastore, 1) := by decide +kernel
theorem dX10_sells_48 : decode cX10_sells 48 = .ok (.aload_n 0, 1) := by decide +kernel
theorem dX10_sells_49 : decode cX10_sells 49 = .ok (.getfield 53, 3) := by decide +kernel
theorem dX10_sells_52 : decode cX10_sells 52 = .ok (.iconst 5, 1) := by decide +kernel
