theorem dX10_over_161 : decode cX10_over 161 = .ok (.lload 7, 2) := by decide +kernel
theorem dX10_over_163 : decode cX10_over 163 = .ok (.invokestatic 172, 3) := by decide +kernel
theorem dX10_over_166 : decode cX10_over 166 = .ok (.ldiv, 1) := by decide +kernel
theorem dX10_over_167 : decode cX10_over 167 = .ok (.lreturn, 1) := by decide +kernel
set_option maxRecDepth 20000 in
theorem ggX10_leans_X10_in : GoodIn wsX10_leans wsX10_in := goodIn_r _ [5] (by decide +kernel) (by decide +kernel)
set_option maxRecDepth 20000 in
theorem gX10_leans_X10_in : GoodIn wsX10_leans (va_wsS RX10 96 yX10_in wsX10_in) := goodIn_app (goodIn_of _ (by decide +kernel)) ggX10_leans_X10_in
set_option maxRecDepth 20000 in
theorem ggX10_leans_X10_isKind : GoodIn wsX10_leans wsX10_isKind := goodIn_r _ [9, 10, 2, 3, 4, 5, 37, 38, 39, 40, 41, 42, 43, 44, 45, 46, 47, 48, 49, 50, 51, 52, 53, 54, 55, 56, 57, 58, 59, 60, 61, 62, 63, 64, 65, 66, 67, 68, 69, 70] (by decide +kernel) (by decide +kernel)
set_option maxRecDepth 20000 in
theorem gX10_leans_X10_isKind : GoodIn wsX10_leans (wsV RX10 107 RX10 yX10_isKind wsX10_isKind) := goodIn_app (goodIn_of _ (by decide +kernel)) ggX10_leans_X10_isKind
set_option maxRecDepth 20000 in
theorem ggX10_leans_X10_counts : GoodIn wsX10_leans wsX10_counts := goodIn_r _ [14, 15, 16, 17, 18, 19, 4, 20, 37, 38, 39, 40, 41, 42, 43, 44, 45, 46, 47, 48, 49, 50, 51, 52, 53, 54, 55, 56, 57, 58, 59, 60, 61, 62, 63, 64, 65, 66, 67, 68, 69, 70] (by decide +kernel) (by decide +kernel)
set_option maxRecDepth 20000 in
theorem gX10_leans_X10_counts : GoodIn wsX10_leans (wsV RX10 166 RX10 yX10_counts wsX10_counts) := goodIn_app (goodIn_of _ (by decide +kernel)) ggX10_leans_X10_counts
set_option maxRecDepth 20000 in
theorem ggX10_leans_X10_at : GoodIn wsX10_leans wsX10_at := goodIn_r _ [20] (by decide +kernel) (by decide +kernel)
set_option maxRecDepth 20000 in
theorem gX10_leans_X10_at : GoodIn wsX10_leans (va_wsS RX10 120 yX10_at wsX10_at) := goodIn_app (goodIn_of _ (by decide +kernel)) ggX10_leans_X10_at
set_option maxRecDepth 20000 in
theorem ggX10_leans_X10_isTold : GoodIn wsX10_leans wsX10_isTold := goodIn_r _ [24, 25, 16, 26, 27, 28, 4, 29, 30, 31, 32, 33, 34, 35, 36, 17, 37, 38, 39, 40, 41, 42, 43, 44, 45, 46, 47, 48, 49, 50, 51, 52, 53, 54, 55, 56, 57, 58, 59, 60, 61, 62, 63, 64, 65, 66, 67, 68, 69, 70] (by decide +kernel) (by decide +kernel)
set_option maxRecDepth 20000 in
theorem gX10_leans_X10_isTold : GoodIn wsX10_leans (wsV RX10 161 RX10 yX10_isTold wsX10_isTold) := goodIn_app (goodIn_of _ (by decide +kernel)) ggX10_leans_X10_isTold
theorem dX10_leans_0 : decode cX10_leans 0 = .ok (.iload_n 1, 1) := by decide +kernel
theorem dX10_leans_1 : decode cX10_leans 1 = .ok (.iconst 0, 1) := by decide +kernel
theorem dX10_leans_2 : decode cX10_leans 2 = .ok (.iconst 2, 1) := by decide +kernel
theorem dX10_leans_3 : decode cX10_leans 3 = .ok (.invokestatic 96, 3) := by decide +kernel
theorem dX10_leans_6 : decode cX10_leans 6 = .ok (.ifCond .eq 11, 3) := by decide +kernel
theorem dX10_leans_9 : decode cX10_leans 9 = .ok (.aload_n 0, 1) := by decide +kernel
theorem dX10_leans_10 : decode cX10_leans 10 = .ok (.iload_n 2, 1) := by decide +kernel
theorem dX10_leans_11 : decode cX10_leans 11 = .ok (.invokevirtual 107, 3) := by decide +kernel
theorem dX10_leans_14 : decode cX10_leans 14 = .ok (.ifCond .ne 5, 3) := by decide +kernel
theorem dX10_leans_17 : decode cX10_leans 17 = .ok (.iconst (-1), 1) := by decide +kernel
theorem dX10_leans_18 : decode cX10_leans 18 = .ok (.ireturn, 1) := by decide +kernel
theorem dX10_leans_19 : decode cX10_leans 19 = .ok (.iconst 0, 1) := by decide +kernel
theorem dX10_leans_20 : decode cX10_leans 20 = .ok (.istore_n 3, 1) := by decide +kernel
theorem dX10_leans_21 : decode cX10_leans 21 = .ok (.iconst 0, 1) := by decide +kernel
theorem dX10_leans_22 : decode cX10_leans 22 = .ok (.istore 4, 2) := by decide +kernel
theorem dX10_leans_24 : decode cX10_leans 24 = .ok (.iload 4, 2) := by decide +kernel
theorem dX10_leans_26 : decode cX10_leans 26 = .ok (.aload_n 0, 1) := by decide +kernel
theorem dX10_leans_27 : decode cX10_leans 27 = .ok (.getfield 117, 3) := by decide +kernel
theorem dX10_leans_30 : decode cX10_leans 30 = .ok (.if_icmp .gt 60, 3) := by decide +kernel
theorem dX10_leans_33 : decode cX10_leans 33 = .ok (.iconst 0, 1) := by decide +kernel
theorem dX10_leans_34 : decode cX10_leans 34 = .ok (.istore 5, 2) := by decide +kernel
theorem dX10_leans_36 : decode cX10_leans 36 = .ok (.iload 5, 2) := by decide +kernel
theorem dX10_leans_38 : decode cX10_leans 38 = .ok (.iconst 2, 1) := by decide +kernel
theorem dX10_leans_39 : decode cX10_leans 39 = .ok (.if_icmp .ge 45, 3) := by decide +kernel
theorem dX10_leans_42 : decode cX10_leans 42 = .ok (.iload_n 3, 1) := by decide +kernel
theorem dX10_leans_43 : decode cX10_leans 43 = .ok (.aload_n 0, 1) := by decide +kernel
theorem dX10_leans_44 : decode cX10_leans 44 = .ok (.iload 4, 2) := by decide +kernel
theorem dX10_leans_46 : decode cX10_leans 46 = .ok (.iload 5, 2) := by decide +kernel
theorem dX10_leans_48 : decode cX10_leans 48 = .ok (.iload_n 1, 1) := by decide +kernel
theorem dX10_leans_49 : decode cX10_leans 49 = .ok (.iload_n 2, 1) := by decide +kernel
theorem dX10_leans_50 : decode cX10_leans 50 = .ok (.invokevirtual 166, 3) := by decide +kernel
theorem dX10_leans_53 : decode cX10_leans 53 = .ok (.ifCond .eq 22, 3) := by decide +kernel
theorem dX10_leans_56 : decode cX10_leans 56 = .ok (.aload_n 0, 1) := by decide +kernel
theorem dX10_leans_57 : decode cX10_leans 57 = .ok (.iload 4, 2) := by decide +kernel
theorem dX10_leans_59 : decode cX10_leans 59 = .ok (.iload 5, 2) := by decide +kernel
theorem dX10_leans_61 : decode cX10_leans 61 = .ok (.iload_n 2, 1) := by decide +kernel
theorem dX10_leans_62 : decode cX10_leans 62 = .ok (.invokestatic 120, 3) := by decide +kernel
theorem dX10_leans_65 : decode cX10_leans 65 = .ok (.invokevirtual 161, 3) := by decide +kernel
theorem dX10_leans_68 : decode cX10_leans 68 = .ok (.ifCond .eq 7, 3) := by decide +kernel
theorem dX10_leans_71 : decode cX10_leans 71 = .ok (.iconst 1, 1) := by decide +kernel
theorem dX10_leans_72 : decode cX10_leans 72 = .ok (.goto 4, 3) := by decide +kernel
theorem dX10_leans_75 : decode cX10_leans 75 = .ok (.iconst 0, 1) := by decide +kernel
theorem dX10_leans_76 : decode cX10_leans 76 = .ok (.iadd, 1) := by decide +kernel
theorem dX10_leans_77 : decode cX10_leans 77 = .ok (.istore_n 3, 1) := by decide +kernel
theorem dX10_leans_78 : decode cX10_leans 78 = .ok (.iinc 5 1, 3) := by decide +kernel
theorem dX10_leans_81 : decode cX10_leans 81 = .ok (.goto (-45), 3) := by decide +kernel
theorem dX10_leans_84 : decode cX10_leans 84 = .ok (.iinc 4 1, 3) := by decide +kernel
theorem dX10_leans_87 : decode cX10_leans 87 = .ok (.goto (-63), 3) := by decide +kernel
theorem dX10_leans_90 : decode cX10_leans 90 = .ok (.iload_n 3, 1) := by decide +kernel
theorem dX10_leans_91 : decode cX10_leans 91 = .ok (.ireturn, 1) := by decide +kernel
set_option maxRecDepth 20000 in
theorem ggX10_takings_X10_isBar : GoodIn wsX10_takings wsX10_isBar := goodIn_r _ [5, 6, 7, 4, 8] (by decide +kernel) (by decide +kernel)
set_option maxRecDepth 20000 in
theorem gX10_takings_X10_isBar : GoodIn wsX10_takings (va_wsS RX10 132 yX10_isBar wsX10_isBar) := goodIn_app (goodIn_of _ (by decide +kernel)) ggX10_takings_X10_isBar
theorem dX10_takings_0 : decode cX10_takings 0 = .ok (.iload_n 1, 1) := by decide +kernel
theorem dX10_takings_1 : decode cX10_takings 1 = .ok (.invokestatic 132, 3) := by decide +kernel
theorem dX10_takings_4 : decode cX10_takings 4 = .ok (.ifCond .eq 12, 3) := by decide +kernel
theorem dX10_takings_7 : decode cX10_takings 7 = .ok (.aload_n 0, 1) := by decide +kernel
theorem dX10_takings_8 : decode cX10_takings 8 = .ok (.getfield 56, 3) := by decide +kernel
theorem dX10_takings_11 : decode cX10_takings 11 = .ok (.iload_n 1, 1) := by decide +kernel
theorem dX10_takings_12 : decode cX10_takings 12 = .ok (.iaload, 1) := by decide +kernel
theorem dX10_takings_13 : decode cX10_takings 13 = .ok (.goto 4, 3) := by decide +kernel
theorem dX10_takings_16 : decode cX10_takings 16 = .ok (.iconst (-1), 1) := by decide +kernel
theorem dX10_takings_17 : decode cX10_takings 17 = .ok (.ireturn, 1) := by decide +kernel
set_option maxRecDepth 20000 in
theorem ggX10_foretell_X10_in : GoodIn wsX10_foretell wsX10_in := goodIn_r _ [7] (by decide +kernel) (by decide +kernel)
set_option maxRecDepth 20000 in
theorem gX10_foretell_X10_in : GoodIn wsX10_foretell (va_wsS RX10 96 yX10_in wsX10_in) := goodIn_app (goodIn_of _ (by decide +kernel)) ggX10_foretell_X10_in
theorem dX10_foretell_0 : decode cX10_foretell 0 = .ok (.iload_n 1, 1) := by decide +kernel
theorem dX10_foretell_1 : decode cX10_foretell 1 = .ok (.iconst 0, 1) := by decide +kernel
theorem dX10_foretell_2 : decode cX10_foretell 2 = .ok (.sipush 200, 3) := by decide +kernel
theorem dX10_foretell_5 : decode cX10_foretell 5 = .ok (.invokestatic 96, 3) := by decide +kernel
theorem dX10_foretell_8 : decode cX10_foretell 8 = .ok (.ifCond .eq 13, 3) := by decide +kernel
theorem dX10_foretell_11 : decode cX10_foretell 11 = .ok (.iload_n 2, 1) := by decide +kernel
theorem dX10_foretell_12 : decode cX10_foretell 12 = .ok (.iconst 1, 1) := by decide +kernel
theorem dX10_foretell_13 : decode cX10_foretell 13 = .ok (.bipush 100, 2) := by decide +kernel
theorem dX10_foretell_15 : decode cX10_foretell 15 = .ok (.invokestatic 96, 3) := by decide +kernel
theorem dX10_foretell_18 : decode cX10_foretell 18 = .ok (.ifCond .ne 5, 3) := by decide +kernel
theorem dX10_foretell_21 : decode cX10_foretell 21 = .ok (.iconst (-1), 1) := by decide +kernel
theorem dX10_foretell_22 : decode cX10_foretell 22 = .ok (.ireturn, 1) := by decide +kernel
theorem dX10_foretell_23 : decode cX10_foretell 23 = .ok (.aload_n 0, 1) := by decide +kernel
theorem dX10_foretell_24 : decode cX10_foretell 24 = .ok (.getfield 176, 3) := by decide +kernel
theorem dX10_foretell_27 : decode cX10_foretell 27 = .ok (.bipush 8, 2) := by decide +kernel
theorem dX10_foretell_29 : decode cX10_foretell 29 = .ok (.if_icmp .ne 6, 3) := by decide +kernel
theorem dX10_foretell_32 : decode cX10_foretell 32 = .ok (.bipush (-3), 2) := by decide +kernel
theorem dX10_foretell_34 : decode cX10_foretell 34 = .ok (.ireturn, 1) := by decide +kernel
theorem dX10_foretell_35 : decode cX10_foretell 35 = .ok (.aload_n 0, 1) := by decide +kernel
theorem dX10_foretell_36 : decode cX10_foretell 36 = .ok (.getfield 62, 3) := by decide +kernel
theorem dX10_foretell_39 : decode cX10_foretell 39 = .ok (.aload_n 0, 1) := by decide +kernel
theorem dX10_foretell_40 : decode cX10_foretell 40 = .ok (.getfield 176, 3) := by decide +kernel
theorem dX10_foretell_43 : decode cX10_foretell 43 = .ok (.iload_n 1, 1) := by decide +kernel
theorem dX10_foretell_44 : decode cX10_foretell 44 = .ok (.iastore, 1) := by decide +kernel
theorem dX10_foretell_45 : decode cX10_foretell 45 = .ok (.aload_n 0, 1) := by decide +kernel
theorem dX10_foretell_46 : decode cX10_foretell 46 = .ok (.getfield 65, 3) := by decide +kernel
theorem dX10_foretell_49 : decode cX10_foretell 49 = .ok (.aload_n 0, 1) := by decide +kernel
theorem dX10_foretell_50 : decode cX10_foretell 50 = .ok (.getfield 176, 3) := by decide +kernel
theorem dX10_foretell_53 : decode cX10_foretell 53 = .ok (.iload_n 2, 1) := by decide +kernel
theorem dX10_foretell_54 : decode cX10_foretell 54 = .ok (.iastore, 1) := by decide +kernel
theorem dX10_foretell_55 : decode cX10_foretell 55 = .ok (.aload_n 0, 1) := by decide +kernel
theorem dX10_foretell_56 : decode cX10_foretell 56 = .ok (.dup, 1) := by decide +kernel
theorem dX10_foretell_57 : decode cX10_foretell 57 = .ok (.getfield 176, 3) := by decide +kernel
theorem dX10_foretell_60 : decode cX10_foretell 60 = .ok (.iconst 1, 1) := by decide +kernel
theorem dX10_foretell_61 : decode cX10_foretell 61 = .ok (.iadd, 1) := by decide +kernel
theorem dX10_foretell_62 : decode cX10_foretell 62 = .ok (.putfield 176, 3) := by decide +kernel
theorem dX10_foretell_65 : decode cX10_foretell 65 = .ok (.aload_n 0, 1) := by decide +kernel
theorem dX10_foretell_66 : decode cX10_foretell 66 = .ok (.getfield 176, 3) := by decide +kernel
theorem dX10_foretell_69 : decode cX10_foretell 69 = .ok (.ireturn, 1) := by decide +kernel
theorem dX10_forget_0 : decode cX10_forget 0 = .ok (.aload_n 0, 1) := by decide +kernel
theorem dX10_forget_1 : decode cX10_forget 1 = .ok (.getfield 176, 3) := by decide +kernel
theorem dX10_forget_4 : decode cX10_forget 4 = .ok (.istore_n 1, 1) := by decide +kernel
theorem dX10_forget_5 : decode cX10_forget 5 = .ok (.aload_n 0, 1) := by decide +kernel
theorem dX10_forget_6 : decode cX10_forget 6 = .ok (.iconst 0, 1) := by decide +kernel
theorem dX10_forget_7 : decode cX10_forget 7 = .ok (.putfield 176, 3) := by decide +kernel
theorem dX10_forget_10 : decode cX10_forget 10 = .ok (.iload_n 1, 1) := by decide +kernel
theorem dX10_forget_11 : decode cX10_forget 11 = .ok (.ireturn, 1) := by decide +kernel
theorem dX10_costOf_0 : decode cX10_costOf 0 = .ok (.iconst 0, 1) := by decide +kernel
theorem dX10_costOf_1 : decode cX10_costOf 1 = .ok (.istore_n 2, 1) := by decide +kernel
theorem dX10_costOf_2 : decode cX10_costOf 2 = .ok (.iconst 0, 1) := by decide +kernel
theorem dX10_costOf_3 : decode cX10_costOf 3 = .ok (.istore_n 3, 1) := by decide +kernel
theorem dX10_costOf_4 : decode cX10_costOf 4 = .ok (.iload_n 3, 1) := by decide +kernel
theorem dX10_costOf_5 : decode cX10_costOf 5 = .ok (.aload_n 0, 1) := by decide +kernel
theorem dX10_costOf_6 : decode cX10_costOf 6 = .ok (.getfield 176, 3) := by decide +kernel
theorem dX10_costOf_9 : decode cX10_costOf 9 = .ok (.if_icmp .ge 56, 3) := by decide +kernel
theorem dX10_costOf_12 : decode cX10_costOf 12 = .ok (.iload_n 1, 1) := by decide +kernel
theorem dX10_costOf_13 : decode cX10_costOf 13 = .ok (.aload_n 0, 1) := by decide +kernel
theorem dX10_costOf_14 : decode cX10_costOf 14 = .ok (.getfield 62, 3) := by decide +kernel
theorem dX10_costOf_17 : decode cX10_costOf 17 = .ok (.iload_n 3, 1) := by decide +kernel
theorem dX10_costOf_18 : decode cX10_costOf 18 = .ok (.iaload, 1) := by decide +kernel
theorem dX10_costOf_19 : decode cX10_costOf 19 = .ok (.isub, 1) := by decide +kernel
theorem dX10_costOf_20 : decode cX10_costOf 20 = .ok (.istore 4, 2) := by decide +kernel
theorem dX10_costOf_22 : decode cX10_costOf 22 = .ok (.iload_n 2, 1) := by decide +kernel
theorem dX10_costOf_23 : decode cX10_costOf 23 = .ok (.aload_n 0, 1) := by decide +kernel
theorem dX10_costOf_24 : decode cX10_costOf 24 = .ok (.getfield 65, 3) := by decide +kernel
theorem dX10_costOf_27 : decode cX10_costOf 27 = .ok (.iload_n 3, 1) := by decide +kernel
theorem dX10_costOf_28 : decode cX10_costOf 28 = .ok (.iaload, 1) := by decide +kernel
theorem dX10_costOf_29 : decode cX10_costOf 29 = .ok (.iload 4, 2) := by decide +kernel
theorem dX10_costOf_31 : decode cX10_costOf 31 = .ok (.ifCond .le 15, 3) := by decide +kernel
theorem dX10_costOf_34 : decode cX10_costOf 34 = .ok (.aload_n 0, 1) := by decide +kernel
theorem dX10_costOf_35 : decode cX10_costOf 35 = .ok (.getfield 29, 3) := by decide +kernel
theorem dX10_costOf_38 : decode cX10_costOf 38 = .ok (.iconst 2, 1) := by decide +kernel
theorem dX10_costOf_39 : decode cX10_costOf 39 = .ok (.iaload, 1) := by decide +kernel
theorem dX10_costOf_40 : decode cX10_costOf 40 = .ok (.iload 4, 2) := by decide +kernel
theorem dX10_costOf_42 : decode cX10_costOf 42 = .ok (.imul, 1) := by decide +kernel
theorem dX10_costOf_43 : decode cX10_costOf 43 = .ok (.goto 13, 3) := by decide +kernel
theorem dX10_costOf_46 : decode cX10_costOf 46 = .ok (.aload_n 0, 1) := by decide +kernel
theorem dX10_costOf_47 : decode cX10_costOf 47 = .ok (.getfield 29, 3) := by decide +kernel
theorem dX10_costOf_50 : decode cX10_costOf 50 = .ok (.iconst 3, 1) := by decide +kernel
theorem dX10_costOf_51 : decode cX10_costOf 51 = .ok (.iaload, 1) := by decide +kernel
theorem dX10_costOf_52 : decode cX10_costOf 52 = .ok (.ineg, 1) := by decide +kernel
theorem dX10_costOf_53 : decode cX10_costOf 53 = .ok (.iload 4, 2) := by decide +kernel
theorem dX10_costOf_55 : decode cX10_costOf 55 = .ok (.imul, 1) := by decide +kernel
theorem dX10_costOf_56 : decode cX10_costOf 56 = .ok (.imul, 1) := by decide +kernel
theorem dX10_costOf_57 : decode cX10_costOf 57 = .ok (.iadd, 1) := by decide +kernel
theorem dX10_costOf_58 : decode cX10_costOf 58 = .ok (.istore_n 2, 1) := by decide +kernel
theorem dX10_costOf_59 : decode cX10_costOf 59 = .ok (.iinc 3 1, 3) := by decide +kernel
theorem dX10_costOf_62 : decode cX10_costOf 62 = .ok (.goto (-58), 3) := by decide +kernel
theorem dX10_costOf_65 : decode cX10_costOf 65 = .ok (.iload_n 2, 1) := by decide +kernel
theorem dX10_costOf_66 : decode cX10_costOf 66 = .ok (.ireturn, 1) := by decide +kernel
set_option maxRecDepth 20000 in
theorem ggX10_press_X10_in : GoodIn wsX10_press wsX10_in := goodIn_r _ [5] (by decide +kernel) (by decide +kernel)
set_option maxRecDepth 20000 in
theorem gX10_press_X10_in : GoodIn wsX10_press (va_wsS RX10 96 yX10_in wsX10_in) := goodIn_app (goodIn_of _ (by decide +kernel)) ggX10_press_X10_in
set_option maxRecDepth 20000 in
theorem ggX10_press_X10_costOf : GoodIn wsX10_press wsX10_costOf := goodIn_r _ [9, 1, 10, 11, 12, 13, 14, 15, 16, 17, 18, 19, 20, 21, 22, 23, 24, 25, 26, 27, 28, 29, 30, 31, 32, 33, 34, 35, 36, 37, 38, 39, 40, 41, 42, 43, 44, 45, 46] (by decide +kernel) (by decide +kernel)
set_option maxRecDepth 20000 in
theorem gX10_press_X10_costOf : GoodIn wsX10_press (wsV RX10 179 RX10 yX10_costOf wsX10_costOf) := goodIn_app (goodIn_of _ (by decide +kernel)) ggX10_press_X10_costOf
theorem dX10_press_0 : decode cX10_press 0 = .ok (.aload_n 0, 1) := by decide +kernel
theorem dX10_press_1 : decode cX10_press 1 = .ok (.getfield 176, 3) := by decide +kernel
theorem dX10_press_4 : decode cX10_press 4 = .ok (.ifCond .ne 6, 3) := by decide +kernel
theorem dX10_press_7 : decode cX10_press 7 = .ok (.bipush (-2), 2) := by decide +kernel
theorem dX10_press_9 : decode cX10_press 9 = .ok (.ireturn, 1) := by decide +kernel
theorem dX10_press_10 : decode cX10_press 10 = .ok (.iload_n 1, 1) := by decide +kernel
theorem dX10_press_11 : decode cX10_press 11 = .ok (.iconst (-1), 1) := by decide +kernel
theorem dX10_press_12 : decode cX10_press 12 = .ok (.sipush 200, 3) := by decide +kernel
theorem dX10_press_15 : decode cX10_press 15 = .ok (.invokestatic 96, 3) := by decide +kernel
theorem dX10_press_18 : decode cX10_press 18 = .ok (.ifCond .ne 5, 3) := by decide +kernel
theorem dX10_press_21 : decode cX10_press 21 = .ok (.iconst (-1), 1) := by decide +kernel
theorem dX10_press_22 : decode cX10_press 22 = .ok (.ireturn, 1) := by decide +kernel
theorem dX10_press_23 : decode cX10_press 23 = .ok (.iload_n 1, 1) := by decide +kernel
theorem dX10_press_24 : decode cX10_press 24 = .ok (.ifCond .lt 9, 3) := by decide +kernel
theorem dX10_press_27 : decode cX10_press 27 = .ok (.aload_n 0, 1) := by decide +kernel
theorem dX10_press_28 : decode cX10_press 28 = .ok (.iload_n 1, 1) := by decide +kernel
theorem dX10_press_29 : decode cX10_press 29 = .ok (.invokevirtual 179, 3) := by decide +kernel
theorem dX10_press_32 : decode cX10_press 32 = .ok (.ireturn, 1) := by decide +kernel
theorem dX10_press_33 : decode cX10_press 33 = .ok (.iconst 0, 1) := by decide +kernel
theorem dX10_press_34 : decode cX10_press 34 = .ok (.istore_n 2, 1) := by decide +kernel
theorem dX10_press_35 : decode cX10_press 35 = .ok (.iconst 1, 1) := by decide +kernel
theorem dX10_press_36 : decode cX10_press 36 = .ok (.istore_n 3, 1) := by decide +kernel
theorem dX10_press_37 : decode cX10_press 37 = .ok (.iload_n 3, 1) := by decide +kernel
theorem dX10_press_38 : decode cX10_press 38 = .ok (.sipush 200, 3) := by decide +kernel
theorem dX10_press_41 : decode cX10_press 41 = .ok (.if_icmp .gt 28, 3) := by decide +kernel
theorem dX10_press_44 : decode cX10_press 44 = .ok (.aload_n 0, 1) := by decide +kernel
theorem dX10_press_45 : decode cX10_press 45 = .ok (.iload_n 3, 1) := by decide +kernel
theorem dX10_press_46 : decode cX10_press 46 = .ok (.invokevirtual 179, 3) := by decide +kernel
theorem dX10_press_49 : decode cX10_press 49 = .ok (.aload_n 0, 1) := by decide +kernel
theorem dX10_press_50 : decode cX10_press 50 = .ok (.iload_n 2, 1) := by decide +kernel
theorem dX10_press_51 : decode cX10_press 51 = .ok (.invokevirtual 179, 3) := by decide +kernel
theorem dX10_press_54 : decode cX10_press 54 = .ok (.if_icmp .ge 7, 3) := by decide +kernel
theorem dX10_press_57 : decode cX10_press 57 = .ok (.iload_n 3, 1) := by decide +kernel
theorem dX10_press_58 : decode cX10_press 58 = .ok (.goto 4, 3) := by decide +kernel
theorem dX10_press_61 : decode cX10_press 61 = .ok (.iload_n 2, 1) := by decide +kernel
theorem dX10_press_62 : decode cX10_press 62 = .ok (.istore_n 2, 1) := by decide +kernel
theorem dX10_press_63 : decode cX10_press 63 = .ok (.iinc 3 1, 3) := by decide +kernel
theorem dX10_press_66 : decode cX10_press 66 = .ok (.goto (-29), 3) := by decide +kernel
theorem dX10_press_69 : decode cX10_press 69 = .ok (.iload_n 2, 1) := by decide +kernel
theorem dX10_press_70 : decode cX10_press 70 = .ok (.ireturn, 1) := by decide +kernel
theorem dX10_madeBy_0 : decode cX10_madeBy 0 = .ok (.iconst 0, 1) := by decide +kernel
theorem dX10_madeBy_1 : decode cX10_madeBy 1 = .ok (.istore_n 2, 1) := by decide +kernel
theorem dX10_madeBy_2 : decode cX10_madeBy 2 = .ok (.iconst 0, 1) := by decide +kernel
theorem dX10_madeBy_3 : decode cX10_madeBy 3 = .ok (.istore_n 3, 1) := by decide +kernel
theorem dX10_madeBy_4 : decode cX10_madeBy 4 = .ok (.iload_n 3, 1) := by decide +kernel
theorem dX10_madeBy_5 : decode cX10_madeBy 5 = .ok (.aload_n 0, 1) := by decide +kernel
theorem dX10_madeBy_6 : decode cX10_madeBy 6 = .ok (.getfield 100, 3) := by decide +kernel
theorem dX10_madeBy_9 : decode cX10_madeBy 9 = .ok (.if_icmp .ge 80, 3) := by decide +kernel
theorem dX10_madeBy_12 : decode cX10_madeBy 12 = .ok (.iconst 0, 1) := by decide +kernel
theorem dX10_madeBy_13 : decode cX10_madeBy 13 = .ok (.istore 4, 2) := by decide +kernel
theorem dX10_madeBy_15 : decode cX10_madeBy 15 = .ok (.iconst 0, 1) := by decide +kernel
theorem dX10_madeBy_16 : decode cX10_madeBy 16 = .ok (.istore 5, 2) := by decide +kernel
theorem dX10_madeBy_18 : decode cX10_madeBy 18 = .ok (.iload 5, 2) := by decide +kernel
theorem dX10_madeBy_20 : decode cX10_madeBy 20 = .ok (.aload_n 0, 1) := by decide +kernel
theorem dX10_madeBy_21 : decode cX10_madeBy 21 = .ok (.getfield 92, 3) := by decide +kernel
theorem dX10_madeBy_24 : decode cX10_madeBy 24 = .ok (.if_icmp .ge 37, 3) := by decide +kernel
theorem dX10_madeBy_27 : decode cX10_madeBy 27 = .ok (.iload 4, 2) := by decide +kernel
theorem dX10_madeBy_29 : decode cX10_madeBy 29 = .ok (.aload_n 0, 1) := by decide +kernel
theorem dX10_madeBy_30 : decode cX10_madeBy 30 = .ok (.getfield 22, 3) := by decide +kernel
theorem dX10_madeBy_33 : decode cX10_madeBy 33 = .ok (.bipush 10, 2) := by decide +kernel
theorem dX10_madeBy_35 : decode cX10_madeBy 35 = .ok (.iload_n 3, 1) := by decide +kernel
theorem dX10_madeBy_36 : decode cX10_madeBy 36 = .ok (.imul, 1) := by decide +kernel
theorem dX10_madeBy_37 : decode cX10_madeBy 37 = .ok (.iload 5, 2) := by decide +kernel
theorem dX10_madeBy_39 : decode cX10_madeBy 39 = .ok (.iadd, 1) := by decide +kernel
theorem dX10_madeBy_40 : decode cX10_madeBy 40 = .ok (.iaload, 1) := by decide +kernel
theorem dX10_madeBy_41 : decode cX10_madeBy 41 = .ok (.ifCond .le 10, 3) := by decide +kernel
theorem dX10_madeBy_44 : decode cX10_madeBy 44 = .ok (.iconst 1, 1) := by decide +kernel
theorem dX10_madeBy_45 : decode cX10_madeBy 45 = .ok (.iload 5, 2) := by decide +kernel
theorem dX10_madeBy_47 : decode cX10_madeBy 47 = .ok (.ishl, 1) := by decide +kernel
theorem dX10_madeBy_48 : decode cX10_madeBy 48 = .ok (.goto 4, 3) := by decide +kernel
theorem dX10_madeBy_51 : decode cX10_madeBy 51 = .ok (.iconst 0, 1) := by decide +kernel
theorem dX10_madeBy_52 : decode cX10_madeBy 52 = .ok (.ior, 1) := by decide +kernel
theorem dX10_madeBy_53 : decode cX10_madeBy 53 = .ok (.istore 4, 2) := by decide +kernel
theorem dX10_madeBy_55 : decode cX10_madeBy 55 = .ok (.iinc 5 1, 3) := by decide +kernel
theorem dX10_madeBy_58 : decode cX10_madeBy 58 = .ok (.goto (-40), 3) := by decide +kernel
theorem dX10_madeBy_61 : decode cX10_madeBy 61 = .ok (.iload_n 2, 1) := by decide +kernel
theorem dX10_madeBy_62 : decode cX10_madeBy 62 = .ok (.iload 4, 2) := by decide +kernel
theorem dX10_madeBy_64 : decode cX10_madeBy 64 = .ok (.ifCond .eq 16, 3) := by decide +kernel
theorem dX10_madeBy_67 : decode cX10_madeBy 67 = .ok (.iload 4, 2) := by decide +kernel
theorem dX10_madeBy_69 : decode cX10_madeBy 69 = .ok (.iload_n 1, 1) := by decide +kernel
theorem dX10_madeBy_70 : decode cX10_madeBy 70 = .ok (.iconst (-1), 1) := by decide +kernel
theorem dX10_madeBy_71 : decode cX10_madeBy 71 = .ok (.ixor, 1) := by decide +kernel
theorem dX10_madeBy_72 : decode cX10_madeBy 72 = .ok (.iand, 1) := by decide +kernel
theorem dX10_madeBy_73 : decode cX10_madeBy 73 = .ok (.ifCond .ne 7, 3) := by decide +kernel
theorem dX10_madeBy_76 : decode cX10_madeBy 76 = .ok (.iconst 1, 1) := by decide +kernel
theorem dX10_madeBy_77 : decode cX10_madeBy 77 = .ok (.goto 4, 3) := by decide +kernel
theorem dX10_madeBy_80 : decode cX10_madeBy 80 = .ok (.iconst 0, 1) := by decide +kernel
theorem dX10_madeBy_81 : decode cX10_madeBy 81 = .ok (.iadd, 1) := by decide +kernel
theorem dX10_madeBy_82 : decode cX10_madeBy 82 = .ok (.istore_n 2, 1) := by decide +kernel
theorem dX10_madeBy_83 : decode cX10_madeBy 83 = .ok (.iinc 3 1, 3) := by decide +kernel
theorem dX10_madeBy_86 : decode cX10_madeBy 86 = .ok (.goto (-82), 3) := by decide +kernel
theorem dX10_madeBy_89 : decode cX10_madeBy 89 = .ok (.iload_n 2, 1) := by decide +kernel
theorem dX10_madeBy_90 : decode cX10_madeBy 90 = .ok (.ireturn, 1) := by decide +kernel
theorem dX10_bits_0 : decode cX10_bits 0 = .ok (.iconst 0, 1) := by decide +kernel
theorem dX10_bits_1 : decode cX10_bits 1 = .ok (.istore_n 1, 1) := by decide +kernel
theorem dX10_bits_2 : decode cX10_bits 2 = .ok (.iconst 0, 1) := by decide +kernel
theorem dX10_bits_3 : decode cX10_bits 3 = .ok (.istore_n 2, 1) := by decide +kernel
theorem dX10_bits_4 : decode cX10_bits 4 = .ok (.iload_n 2, 1) := by decide +kernel
theorem dX10_bits_5 : decode cX10_bits 5 = .ok (.bipush 10, 2) := by decide +kernel
theorem dX10_bits_7 : decode cX10_bits 7 = .ok (.if_icmp .ge 17, 3) := by decide +kernel
theorem dX10_bits_10 : decode cX10_bits 10 = .ok (.iload_n 1, 1) := by decide +kernel
theorem dX10_bits_11 : decode cX10_bits 11 = .ok (.iload_n 0, 1) := by decide +kernel
theorem dX10_bits_12 : decode cX10_bits 12 = .ok (.iload_n 2, 1) := by decide +kernel
theorem dX10_bits_13 : decode cX10_bits 13 = .ok (.ishr, 1) := by decide +kernel
theorem dX10_bits_14 : decode cX10_bits 14 = .ok (.iconst 1, 1) := by decide +kernel
theorem dX10_bits_15 : decode cX10_bits 15 = .ok (.iand, 1) := by decide +kernel
theorem dX10_bits_16 : decode cX10_bits 16 = .ok (.iadd, 1) := by decide +kernel
theorem dX10_bits_17 : decode cX10_bits 17 = .ok (.istore_n 1, 1) := by decide +kernel
theorem dX10_bits_18 : decode cX10_bits 18 = .ok (.iinc 2 1, 3) := by decide +kernel
theorem dX10_bits_21 : decode cX10_bits 21 = .ok (.goto (-17), 3) := by decide +kernel
theorem dX10_bits_24 : decode cX10_bits 24 = .ok (.iload_n 1, 1) := by decide +kernel
theorem dX10_bits_25 : decode cX10_bits 25 = .ok (.ireturn, 1) := by decide +kernel
set_option maxRecDepth 20000 in
theorem ggX10_makes_X10_in : GoodIn wsX10_makes wsX10_in := goodIn_r _ [5] (by decide +kernel) (by decide +kernel)
set_option maxRecDepth 20000 in
theorem gX10_makes_X10_in : GoodIn wsX10_makes (va_wsS RX10 96 yX10_in wsX10_in) := goodIn_app (goodIn_of _ (by decide +kernel)) ggX10_makes_X10_in
set_option maxRecDepth 20000 in
theorem ggX10_makes_X10_madeBy : GoodIn wsX10_makes wsX10_madeBy := goodIn_r _ [9, 10, 1, 11, 12, 13, 14, 15, 16, 17, 18, 19, 20, 21, 22, 23, 24, 25, 26, 27, 28, 29, 30, 31, 32, 33, 34, 35, 36, 37, 38, 39, 40, 41, 42, 43, 44, 45] (by decide +kernel) (by decide +kernel)
set_option maxRecDepth 20000 in
theorem gX10_makes_X10_madeBy : GoodIn wsX10_makes (wsV RX10 182 RX10 yX10_madeBy wsX10_madeBy) := goodIn_app (goodIn_of _ (by decide +kernel)) ggX10_makes_X10_madeBy
theorem dX10_makes_0 : decode cX10_makes 0 = .ok (.iload_n 1, 1) := by decide +kernel
theorem dX10_makes_1 : decode cX10_makes 1 = .ok (.iconst 0, 1) := by decide +kernel
theorem dX10_makes_2 : decode cX10_makes 2 = .ok (.iconst 1, 1) := by decide +kernel
theorem dX10_makes_3 : decode cX10_makes 3 = .ok (.aload_n 0, 1) := by decide +kernel
theorem dX10_makes_4 : decode cX10_makes 4 = .ok (.getfield 92, 3) := by decide +kernel
theorem dX10_makes_7 : decode cX10_makes 7 = .ok (.ishl, 1) := by decide +kernel
theorem dX10_makes_8 : decode cX10_makes 8 = .ok (.iconst 1, 1) := by decide +kernel
theorem dX10_makes_9 : decode cX10_makes 9 = .ok (.isub, 1) := by decide +kernel
theorem dX10_makes_10 : decode cX10_makes 10 = .ok (.invokestatic 96, 3) := by decide +kernel
theorem dX10_makes_13 : decode cX10_makes 13 = .ok (.ifCond .eq 11, 3) := by decide +kernel
theorem dX10_makes_16 : decode cX10_makes 16 = .ok (.aload_n 0, 1) := by decide +kernel
theorem dX10_makes_17 : decode cX10_makes 17 = .ok (.iload_n 1, 1) := by decide +kernel
theorem dX10_makes_18 : decode cX10_makes 18 = .ok (.invokevirtual 182, 3) := by decide +kernel
theorem dX10_makes_21 : decode cX10_makes 21 = .ok (.goto 4, 3) := by decide +kernel
theorem dX10_makes_24 : decode cX10_makes 24 = .ok (.iconst (-1), 1) := by decide +kernel
theorem dX10_makes_25 : decode cX10_makes 25 = .ok (.ireturn, 1) := by decide +kernel
set_option maxRecDepth 20000 in
theorem ggX10_fewest_X10_in : GoodIn wsX10_fewest wsX10_in := goodIn_r _ [5] (by decide +kernel) (by decide +kernel)
set_option maxRecDepth 20000 in
theorem gX10_fewest_X10_in : GoodIn wsX10_fewest (va_wsS RX10 96 yX10_in wsX10_in) := goodIn_app (goodIn_of _ (by decide +kernel)) ggX10_fewest_X10_in
set_option maxRecDepth 20000 in
theorem ggX10_fewest_X10_bits : GoodIn wsX10_fewest wsX10_bits := goodIn_r _ [8] (by decide +kernel) (by decide +kernel)
set_option maxRecDepth 20000 in
theorem gX10_fewest_X10_bits : GoodIn wsX10_fewest (va_wsS RX10 185 yX10_bits wsX10_bits) := goodIn_app (goodIn_of _ (by decide +kernel)) ggX10_fewest_X10_bits
set_option maxRecDepth 20000 in
theorem ggX10_fewest_X10_madeBy : GoodIn wsX10_fewest wsX10_madeBy := goodIn_r _ [12, 13, 1, 14, 15, 16, 17, 18, 19, 20, 21, 22, 23, 24, 25, 26, 27, 28, 29, 30, 31, 32, 33, 34, 35, 36, 37, 38, 39, 40, 41, 42, 43, 44, 45, 46, 47, 48] (by decide +kernel) (by decide +kernel)
set_option maxRecDepth 20000 in
theorem gX10_fewest_X10_madeBy : GoodIn wsX10_fewest (wsV RX10 182 RX10 yX10_madeBy wsX10_madeBy) := goodIn_app (goodIn_of _ (by decide +kernel)) ggX10_fewest_X10_madeBy
theorem dX10_fewest_0 : decode cX10_fewest 0 = .ok (.iload_n 1, 1) := by decide +kernel
theorem dX10_fewest_1 : decode cX10_fewest 1 = .ok (.iconst 1, 1) := by decide +kernel
theorem dX10_fewest_2 : decode cX10_fewest 2 = .ok (.bipush 12, 2) := by decide +kernel
theorem dX10_fewest_4 : decode cX10_fewest 4 = .ok (.invokestatic 96, 3) := by decide +kernel
theorem dX10_fewest_7 : decode cX10_fewest 7 = .ok (.ifCond .ne 5, 3) := by decide +kernel
theorem dX10_fewest_10 : decode cX10_fewest 10 = .ok (.iconst (-1), 1) := by decide +kernel
theorem dX10_fewest_11 : decode cX10_fewest 11 = .ok (.ireturn, 1) := by decide +kernel
theorem dX10_fewest_12 : decode cX10_fewest 12 = .ok (.bipush (-4), 2) := by decide +kernel
theorem dX10_fewest_14 : decode cX10_fewest 14 = .ok (.istore_n 2, 1) := by decide +kernel
theorem dX10_fewest_15 : decode cX10_fewest 15 = .ok (.iconst 0, 1) := by decide +kernel
theorem dX10_fewest_16 : decode cX10_fewest 16 = .ok (.istore_n 3, 1) := by decide +kernel
theorem dX10_fewest_17 : decode cX10_fewest 17 = .ok (.iload_n 3, 1) := by decide +kernel
theorem dX10_fewest_18 : decode cX10_fewest 18 = .ok (.iconst 1, 1) := by decide +kernel
theorem dX10_fewest_19 : decode cX10_fewest 19 = .ok (.aload_n 0, 1) := by decide +kernel
theorem dX10_fewest_20 : decode cX10_fewest 20 = .ok (.getfield 92, 3) := by decide +kernel
theorem dX10_fewest_23 : decode cX10_fewest 23 = .ok (.ishl, 1) := by decide +kernel
theorem dX10_fewest_24 : decode cX10_fewest 24 = .ok (.if_icmp .ge 39, 3) := by decide +kernel
theorem dX10_fewest_27 : decode cX10_fewest 27 = .ok (.iload_n 2, 1) := by decide +kernel
theorem dX10_fewest_28 : decode cX10_fewest 28 = .ok (.ifCond .lt 14, 3) := by decide +kernel
theorem dX10_fewest_31 : decode cX10_fewest 31 = .ok (.iload_n 3, 1) := by decide +kernel
theorem dX10_fewest_32 : decode cX10_fewest 32 = .ok (.invokestatic 185, 3) := by decide +kernel
theorem dX10_fewest_35 : decode cX10_fewest 35 = .ok (.iload_n 2, 1) := by decide +kernel
theorem dX10_fewest_36 : decode cX10_fewest 36 = .ok (.invokestatic 185, 3) := by decide +kernel
theorem dX10_fewest_39 : decode cX10_fewest 39 = .ok (.if_icmp .ge 16, 3) := by decide +kernel
theorem dX10_fewest_42 : decode cX10_fewest 42 = .ok (.aload_n 0, 1) := by decide +kernel
theorem dX10_fewest_43 : decode cX10_fewest 43 = .ok (.iload_n 3, 1) := by decide +kernel
theorem dX10_fewest_44 : decode cX10_fewest 44 = .ok (.invokevirtual 182, 3) := by decide +kernel
theorem dX10_fewest_47 : decode cX10_fewest 47 = .ok (.iload_n 1, 1) := by decide +kernel
theorem dX10_fewest_48 : decode cX10_fewest 48 = .ok (.if_icmp .lt 7, 3) := by decide +kernel
theorem dX10_fewest_51 : decode cX10_fewest 51 = .ok (.iload_n 3, 1) := by decide +kernel
theorem dX10_fewest_52 : decode cX10_fewest 52 = .ok (.goto 4, 3) := by decide +kernel
theorem dX10_fewest_55 : decode cX10_fewest 55 = .ok (.iload_n 2, 1) := by decide +kernel
theorem dX10_fewest_56 : decode cX10_fewest 56 = .ok (.istore_n 2, 1) := by decide +kernel
theorem dX10_fewest_57 : decode cX10_fewest 57 = .ok (.iinc 3 1, 3) := by decide +kernel
theorem dX10_fewest_60 : decode cX10_fewest 60 = .ok (.goto (-43), 3) := by decide +kernel
theorem dX10_fewest_63 : decode cX10_fewest 63 = .ok (.iload_n 2, 1) := by decide +kernel
theorem dX10_fewest_64 : decode cX10_fewest 64 = .ok (.ireturn, 1) := by decide +kernel
set_option maxRecDepth 20000 in
theorem ggX10_most_X10_in : GoodIn wsX10_most wsX10_in := goodIn_r _ [5] (by decide +kernel) (by decide +kernel)
set_option maxRecDepth 20000 in
theorem gX10_most_X10_in : GoodIn wsX10_most (va_wsS RX10 96 yX10_in wsX10_in) := goodIn_app (goodIn_of _ (by decide +kernel)) ggX10_most_X10_in
set_option maxRecDepth 20000 in
theorem ggX10_most_X10_bits : GoodIn wsX10_most wsX10_bits := goodIn_r _ [8] (by decide +kernel) (by decide +kernel)
set_option maxRecDepth 20000 in
theorem gX10_most_X10_bits : GoodIn wsX10_most (va_wsS RX10 185 yX10_bits wsX10_bits) := goodIn_app (goodIn_of _ (by decide +kernel)) ggX10_most_X10_bits
set_option maxRecDepth 20000 in
theorem ggX10_most_X10_madeBy : GoodIn wsX10_most wsX10_madeBy := goodIn_r _ [12, 13, 1, 14, 15, 16, 17, 18, 19, 20, 21, 22, 23, 24, 25, 26, 27, 28, 29, 30, 31, 32, 33, 34, 35, 36, 37, 38, 39, 40, 41, 42, 43, 44, 45, 46, 47, 48] (by decide +kernel) (by decide +kernel)
set_option maxRecDepth 20000 in
theorem gX10_most_X10_madeBy : GoodIn wsX10_most (wsV RX10 182 RX10 yX10_madeBy wsX10_madeBy) := goodIn_app (goodIn_of _ (by decide +kernel)) ggX10_most_X10_madeBy
theorem dX10_most_0 : decode cX10_most 0 = .ok (.iload_n 1, 1) := by decide +kernel
theorem dX10_most_1 : decode cX10_most 1 = .ok (.iconst 0, 1) := by decide +kernel
theorem dX10_most_2 : decode cX10_most 2 = .ok (.aload_n 0, 1) := by decide +kernel
theorem dX10_most_3 : decode cX10_most 3 = .ok (.getfield 92, 3) := by decide +kernel
theorem dX10_most_6 : decode cX10_most 6 = .ok (.invokestatic 96, 3) := by decide +kernel
theorem dX10_most_9 : decode cX10_most 9 = .ok (.ifCond .ne 5, 3) := by decide +kernel
theorem dX10_most_12 : decode cX10_most 12 = .ok (.iconst (-1), 1) := by decide +kernel
theorem dX10_most_13 : decode cX10_most 13 = .ok (.ireturn, 1) := by decide +kernel
theorem dX10_most_14 : decode cX10_most 14 = .ok (.iconst (-1), 1) := by decide +kernel
theorem dX10_most_15 : decode cX10_most 15 = .ok (.istore_n 2, 1) := by decide +kernel
theorem dX10_most_16 : decode cX10_most 16 = .ok (.iconst (-1), 1) := by decide +kernel
theorem dX10_most_17 : decode cX10_most 17 = .ok (.istore_n 3, 1) := by decide +kernel
theorem dX10_most_18 : decode cX10_most 18 = .ok (.iconst 0, 1) := by decide +kernel
theorem dX10_most_19 : decode cX10_most 19 = .ok (.istore 4, 2) := by decide +kernel
theorem dX10_most_21 : decode cX10_most 21 = .ok (.iload 4, 2) := by decide +kernel
theorem dX10_most_23 : decode cX10_most 23 = .ok (.iconst 1, 1) := by decide +kernel
theorem dX10_most_24 : decode cX10_most 24 = .ok (.aload_n 0, 1) := by decide +kernel
theorem dX10_most_25 : decode cX10_most 25 = .ok (.getfield 92, 3) := by decide +kernel
theorem dX10_most_28 : decode cX10_most 28 = .ok (.ishl, 1) := by decide +kernel
theorem dX10_most_29 : decode cX10_most 29 = .ok (.if_icmp .ge 38, 3) := by decide +kernel
theorem dX10_most_32 : decode cX10_most 32 = .ok (.iload 4, 2) := by decide +kernel
theorem dX10_most_34 : decode cX10_most 34 = .ok (.invokestatic 185, 3) := by decide +kernel
theorem dX10_most_37 : decode cX10_most 37 = .ok (.iload_n 1, 1) := by decide +kernel
theorem dX10_most_38 : decode cX10_most 38 = .ok (.if_icmp .ne 23, 3) := by decide +kernel
theorem dX10_most_41 : decode cX10_most 41 = .ok (.aload_n 0, 1) := by decide +kernel
theorem dX10_most_42 : decode cX10_most 42 = .ok (.iload 4, 2) := by decide +kernel
theorem dX10_most_44 : decode cX10_most 44 = .ok (.invokevirtual 182, 3) := by decide +kernel
theorem dX10_most_47 : decode cX10_most 47 = .ok (.iload_n 3, 1) := by decide +kernel
theorem dX10_most_48 : decode cX10_most 48 = .ok (.if_icmp .le 13, 3) := by decide +kernel
theorem dX10_most_51 : decode cX10_most 51 = .ok (.iload 4, 2) := by decide +kernel
theorem dX10_most_53 : decode cX10_most 53 = .ok (.istore_n 2, 1) := by decide +kernel
theorem dX10_most_54 : decode cX10_most 54 = .ok (.aload_n 0, 1) := by decide +kernel
theorem dX10_most_55 : decode cX10_most 55 = .ok (.iload 4, 2) := by decide +kernel
theorem dX10_most_57 : decode cX10_most 57 = .ok (.invokevirtual 182, 3) := by decide +kernel
theorem dX10_most_60 : decode cX10_most 60 = .ok (.istore_n 3, 1) := by decide +kernel
theorem dX10_most_61 : decode cX10_most 61 = .ok (.iinc 4 1, 3) := by decide +kernel
theorem dX10_most_64 : decode cX10_most 64 = .ok (.goto (-43), 3) := by decide +kernel
theorem dX10_most_67 : decode cX10_most 67 = .ok (.iload_n 2, 1) := by decide +kernel
theorem dX10_most_68 : decode cX10_most 68 = .ok (.ireturn, 1) := by decide +kernel
set_option maxRecDepth 20000 in
theorem ggX10_priceRule_X10_in : GoodIn wsX10_priceRule wsX10_in := goodIn_r _ [9] (by decide +kernel) (by decide +kernel)
set_option maxRecDepth 20000 in
theorem gX10_priceRule_X10_in : GoodIn wsX10_priceRule (va_wsS RX10 96 yX10_in wsX10_in) := goodIn_app (goodIn_of _ (by decide +kernel)) ggX10_priceRule_X10_in
theorem dX10_priceRule_0 : decode cX10_priceRule 0 = .ok (.iload_n 1, 1) := by decide +kernel
theorem dX10_priceRule_1 : decode cX10_priceRule 1 = .ok (.iconst 0, 1) := by decide +kernel
theorem dX10_priceRule_2 : decode cX10_priceRule 2 = .ok (.bipush 127, 2) := by decide +kernel
theorem dX10_priceRule_4 : decode cX10_priceRule 4 = .ok (.invokestatic 96, 3) := by decide +kernel
theorem dX10_priceRule_7 : decode cX10_priceRule 7 = .ok (.ifCond .eq 37, 3) := by decide +kernel
theorem dX10_priceRule_10 : decode cX10_priceRule 10 = .ok (.iload_n 2, 1) := by decide +kernel
theorem dX10_priceRule_11 : decode cX10_priceRule 11 = .ok (.iconst 0, 1) := by decide +kernel
theorem dX10_priceRule_12 : decode cX10_priceRule 12 = .ok (.sipush 1439, 3) := by decide +kernel
theorem dX10_priceRule_15 : decode cX10_priceRule 15 = .ok (.invokestatic 96, 3) := by decide +kernel
theorem dX10_priceRule_18 : decode cX10_priceRule 18 = .ok (.ifCond .eq 26, 3) := by decide +kernel
theorem dX10_priceRule_21 : decode cX10_priceRule 21 = .ok (.iload_n 3, 1) := by decide +kernel
theorem dX10_priceRule_22 : decode cX10_priceRule 22 = .ok (.iconst 0, 1) := by decide +kernel
theorem dX10_priceRule_23 : decode cX10_priceRule 23 = .ok (.sipush 1439, 3) := by decide +kernel
theorem dX10_priceRule_26 : decode cX10_priceRule 26 = .ok (.invokestatic 96, 3) := by decide +kernel
theorem dX10_priceRule_29 : decode cX10_priceRule 29 = .ok (.ifCond .eq 15, 3) := by decide +kernel
theorem dX10_priceRule_32 : decode cX10_priceRule 32 = .ok (.iload 4, 2) := by decide +kernel
theorem dX10_priceRule_34 : decode cX10_priceRule 34 = .ok (.iconst 0, 1) := by decide +kernel
theorem dX10_priceRule_35 : decode cX10_priceRule 35 = .ok (.sipush 200, 3) := by decide +kernel
theorem dX10_priceRule_38 : decode cX10_priceRule 38 = .ok (.invokestatic 96, 3) := by decide +kernel
theorem dX10_priceRule_41 : decode cX10_priceRule 41 = .ok (.ifCond .ne 5, 3) := by decide +kernel
theorem dX10_priceRule_44 : decode cX10_priceRule 44 = .ok (.iconst (-1), 1) := by decide +kernel
theorem dX10_priceRule_45 : decode cX10_priceRule 45 = .ok (.ireturn, 1) := by decide +kernel
theorem dX10_priceRule_46 : decode cX10_priceRule 46 = .ok (.aload_n 0, 1) := by decide +kernel
theorem dX10_priceRule_47 : decode cX10_priceRule 47 = .ok (.getfield 188, 3) := by decide +kernel
theorem dX10_priceRule_50 : decode cX10_priceRule 50 = .ok (.bipush 12, 2) := by decide +kernel
theorem dX10_priceRule_52 : decode cX10_priceRule 52 = .ok (.if_icmp .ne 6, 3) := by decide +kernel
theorem dX10_priceRule_55 : decode cX10_priceRule 55 = .ok (.bipush (-3), 2) := by decide +kernel
theorem dX10_priceRule_57 : decode cX10_priceRule 57 = .ok (.ireturn, 1) := by decide +kernel
theorem dX10_priceRule_58 : decode cX10_priceRule 58 = .ok (.aload_n 0, 1) := by decide +kernel
theorem dX10_priceRule_59 : decode cX10_priceRule 59 = .ok (.getfield 68, 3) := by decide +kernel
theorem dX10_priceRule_62 : decode cX10_priceRule 62 = .ok (.aload_n 0, 1) := by decide +kernel
theorem dX10_priceRule_63 : decode cX10_priceRule 63 = .ok (.getfield 188, 3) := by decide +kernel
theorem dX10_priceRule_66 : decode cX10_priceRule 66 = .ok (.iload_n 1, 1) := by decide +kernel
theorem dX10_priceRule_67 : decode cX10_priceRule 67 = .ok (.iastore, 1) := by decide +kernel
theorem dX10_priceRule_68 : decode cX10_priceRule 68 = .ok (.aload_n 0, 1) := by decide +kernel
theorem dX10_priceRule_69 : decode cX10_priceRule 69 = .ok (.getfield 71, 3) := by decide +kernel
theorem dX10_priceRule_72 : decode cX10_priceRule 72 = .ok (.aload_n 0, 1) := by decide +kernel
theorem dX10_priceRule_73 : decode cX10_priceRule 73 = .ok (.getfield 188, 3) := by decide +kernel
theorem dX10_priceRule_76 : decode cX10_priceRule 76 = .ok (.iload_n 2, 1) := by decide +kernel
theorem dX10_priceRule_77 : decode cX10_priceRule 77 = .ok (.iastore, 1) := by decide +kernel
theorem dX10_priceRule_78 : decode cX10_priceRule 78 = .ok (.aload_n 0, 1) := by decide +kernel
theorem dX10_priceRule_79 : decode cX10_priceRule 79 = .ok (.getfield 74, 3) := by decide +kernel
theorem dX10_priceRule_82 : decode cX10_priceRule 82 = .ok (.aload_n 0, 1) := by decide +kernel
theorem dX10_priceRule_83 : decode cX10_priceRule 83 = .ok (.getfield 188, 3) := by decide +kernel
theorem dX10_priceRule_86 : decode cX10_priceRule 86 = .ok (.iload_n 3, 1) := by decide +kernel
theorem dX10_priceRule_87 : decode cX10_priceRule 87 = .ok (.iastore, 1) := by decide +kernel
theorem dX10_priceRule_88 : decode cX10_priceRule 88 = .ok (.aload_n 0, 1) := by decide +kernel
theorem dX10_priceRule_89 : decode cX10_priceRule 89 = .ok (.getfield 77, 3) := by decide +kernel
theorem dX10_priceRule_92 : decode cX10_priceRule 92 = .ok (.aload_n 0, 1) := by decide +kernel
theorem dX10_priceRule_93 : decode cX10_priceRule 93 = .ok (.getfield 188, 3) := by decide +kernel
theorem dX10_priceRule_96 : decode cX10_priceRule 96 = .ok (.iload 4, 2) := by decide +kernel
theorem dX10_priceRule_98 : decode cX10_priceRule 98 = .ok (.iastore, 1) := by decide +kernel
theorem dX10_priceRule_99 : decode cX10_priceRule 99 = .ok (.aload_n 0, 1) := by decide +kernel
theorem dX10_priceRule_100 : decode cX10_priceRule 100 = .ok (.dup, 1) := by decide +kernel
theorem dX10_priceRule_101 : decode cX10_priceRule 101 = .ok (.getfield 188, 3) := by decide +kernel
theorem dX10_priceRule_104 : decode cX10_priceRule 104 = .ok (.iconst 1, 1) := by decide +kernel
theorem dX10_priceRule_105 : decode cX10_priceRule 105 = .ok (.iadd, 1) := by decide +kernel
theorem dX10_priceRule_106 : decode cX10_priceRule 106 = .ok (.putfield 188, 3) := by decide +kernel
theorem dX10_priceRule_109 : decode cX10_priceRule 109 = .ok (.aload_n 0, 1) := by decide +kernel
theorem dX10_priceRule_110 : decode cX10_priceRule 110 = .ok (.getfield 188, 3) := by decide +kernel
theorem dX10_priceRule_113 : decode cX10_priceRule 113 = .ok (.ireturn, 1) := by decide +kernel
set_option maxRecDepth 20000 in
theorem ggX10_holds_X10_in : GoodIn wsX10_holds wsX10_in := goodIn_r _ [7] (by decide +kernel) (by decide +kernel)
set_option maxRecDepth 20000 in
theorem gX10_holds_X10_in : GoodIn wsX10_holds (va_wsS RX10 96 yX10_in wsX10_in) := goodIn_app (goodIn_of _ (by decide +kernel)) ggX10_holds_X10_in
theorem dX10_holds_0 : decode cX10_holds 0 = .ok (.aload_n 0, 1) := by decide +kernel
theorem dX10_holds_1 : decode cX10_holds 1 = .ok (.getfield 68, 3) := by decide +kernel
theorem dX10_holds_4 : decode cX10_holds 4 = .ok (.iload_n 1, 1) := by decide +kernel
theorem dX10_holds_5 : decode cX10_holds 5 = .ok (.iaload, 1) := by decide +kernel
theorem dX10_holds_6 : decode cX10_holds 6 = .ok (.iload_n 2, 1) := by decide +kernel
theorem dX10_holds_7 : decode cX10_holds 7 = .ok (.ishr, 1) := by decide +kernel
theorem dX10_holds_8 : decode cX10_holds 8 = .ok (.iconst 1, 1) := by decide +kernel
theorem dX10_holds_9 : decode cX10_holds 9 = .ok (.iand, 1) := by decide +kernel
theorem dX10_holds_10 : decode cX10_holds 10 = .ok (.iconst 1, 1) := by decide +kernel
theorem dX10_holds_11 : decode cX10_holds 11 = .ok (.if_icmp .ne 7, 3) := by decide +kernel
theorem dX10_holds_14 : decode cX10_holds 14 = .ok (.iconst 1, 1) := by decide +kernel
theorem dX10_holds_15 : decode cX10_holds 15 = .ok (.goto 4, 3) := by decide +kernel
theorem dX10_holds_18 : decode cX10_holds 18 = .ok (.iconst 0, 1) := by decide +kernel
theorem dX10_holds_19 : decode cX10_holds 19 = .ok (.istore 4, 2) := by decide +kernel
theorem dX10_holds_21 : decode cX10_holds 21 = .ok (.aload_n 0, 1) := by decide +kernel
theorem dX10_holds_22 : decode cX10_holds 22 = .ok (.getfield 68, 3) := by decide +kernel
theorem dX10_holds_25 : decode cX10_holds 25 = .ok (.iload_n 1, 1) := by decide +kernel
theorem dX10_holds_26 : decode cX10_holds 26 = .ok (.iaload, 1) := by decide +kernel
theorem dX10_holds_27 : decode cX10_holds 27 = .ok (.iload_n 2, 1) := by decide +kernel
theorem dX10_holds_28 : decode cX10_holds 28 = .ok (.bipush 6, 2) := by decide +kernel
theorem dX10_holds_30 : decode cX10_holds 30 = .ok (.iadd, 1) := by decide +kernel
theorem dX10_holds_31 : decode cX10_holds 31 = .ok (.bipush 7, 2) := by decide +kernel
theorem dX10_holds_33 : decode cX10_holds 33 = .ok (.irem, 1) := by decide +kernel
theorem dX10_holds_34 : decode cX10_holds 34 = .ok (.ishr, 1) := by decide +kernel
theorem dX10_holds_35 : decode cX10_holds 35 = .ok (.iconst 1, 1) := by decide +kernel
theorem dX10_holds_36 : decode cX10_holds 36 = .ok (.iand, 1) := by decide +kernel
theorem dX10_holds_37 : decode cX10_holds 37 = .ok (.iconst 1, 1) := by decide +kernel
theorem dX10_holds_38 : decode cX10_holds 38 = .ok (.if_icmp .ne 7, 3) := by decide +kernel
theorem dX10_holds_41 : decode cX10_holds 41 = .ok (.iconst 1, 1) := by decide +kernel
theorem dX10_holds_42 : decode cX10_holds 42 = .ok (.goto 4, 3) := by decide +kernel
theorem dX10_holds_45 : decode cX10_holds 45 = .ok (.iconst 0, 1) := by decide +kernel
theorem dX10_holds_46 : decode cX10_holds 46 = .ok (.istore 5, 2) := by decide +kernel
theorem dX10_holds_48 : decode cX10_holds 48 = .ok (.aload_n 0, 1) := by decide +kernel
theorem dX10_holds_49 : decode cX10_holds 49 = .ok (.getfield 74, 3) := by decide +kernel
theorem dX10_holds_52 : decode cX10_holds 52 = .ok (.iload_n 1, 1) := by decide +kernel
theorem dX10_holds_53 : decode cX10_holds 53 = .ok (.iaload, 1) := by decide +kernel
theorem dX10_holds_54 : decode cX10_holds 54 = .ok (.aload_n 0, 1) := by decide +kernel
theorem dX10_holds_55 : decode cX10_holds 55 = .ok (.getfield 71, 3) := by decide +kernel
theorem dX10_holds_58 : decode cX10_holds 58 = .ok (.iload_n 1, 1) := by decide +kernel
theorem dX10_holds_59 : decode cX10_holds 59 = .ok (.iaload, 1) := by decide +kernel
theorem dX10_holds_60 : decode cX10_holds 60 = .ok (.if_icmp .le 35, 3) := by decide +kernel
theorem dX10_holds_63 : decode cX10_holds 63 = .ok (.iload 4, 2) := by decide +kernel
theorem dX10_holds_65 : decode cX10_holds 65 = .ok (.ifCond .eq 28, 3) := by decide +kernel
theorem dX10_holds_68 : decode cX10_holds 68 = .ok (.iload_n 3, 1) := by decide +kernel
theorem dX10_holds_69 : decode cX10_holds 69 = .ok (.aload_n 0, 1) := by decide +kernel
theorem dX10_holds_70 : decode cX10_holds 70 = .ok (.getfield 71, 3) := by decide +kernel
theorem dX10_holds_73 : decode cX10_holds 73 = .ok (.iload_n 1, 1) := by decide +kernel
theorem dX10_holds_74 : decode cX10_holds 74 = .ok (.iaload, 1) := by decide +kernel
theorem dX10_holds_75 : decode cX10_holds 75 = .ok (.aload_n 0, 1) := by decide +kernel
theorem dX10_holds_76 : decode cX10_holds 76 = .ok (.getfield 74, 3) := by decide +kernel
theorem dX10_holds_79 : decode cX10_holds 79 = .ok (.iload_n 1, 1) := by decide +kernel
theorem dX10_holds_80 : decode cX10_holds 80 = .ok (.iaload, 1) := by decide +kernel
theorem dX10_holds_81 : decode cX10_holds 81 = .ok (.iconst 1, 1) := by decide +kernel
theorem dX10_holds_82 : decode cX10_holds 82 = .ok (.isub, 1) := by decide +kernel
theorem dX10_holds_83 : decode cX10_holds 83 = .ok (.invokestatic 96, 3) := by decide +kernel
theorem dX10_holds_86 : decode cX10_holds 86 = .ok (.ifCond .eq 7, 3) := by decide +kernel
theorem dX10_holds_89 : decode cX10_holds 89 = .ok (.iconst 1, 1) := by decide +kernel
theorem dX10_holds_90 : decode cX10_holds 90 = .ok (.goto 4, 3) := by decide +kernel
theorem dX10_holds_93 : decode cX10_holds 93 = .ok (.iconst 0, 1) := by decide +kernel
theorem dX10_holds_94 : decode cX10_holds 94 = .ok (.ireturn, 1) := by decide +kernel
theorem dX10_holds_95 : decode cX10_holds 95 = .ok (.iload_n 3, 1) := by decide +kernel
theorem dX10_holds_96 : decode cX10_holds 96 = .ok (.aload_n 0, 1) := by decide +kernel
theorem dX10_holds_97 : decode cX10_holds 97 = .ok (.getfield 71, 3) := by decide +kernel
theorem dX10_holds_100 : decode cX10_holds 100 = .ok (.iload_n 1, 1) := by decide +kernel
theorem dX10_holds_101 : decode cX10_holds 101 = .ok (.iaload, 1) := by decide +kernel
theorem dX10_holds_102 : decode cX10_holds 102 = .ok (.if_icmp .lt 8, 3) := by decide +kernel
theorem dX10_holds_105 : decode cX10_holds 105 = .ok (.iload 4, 2) := by decide +kernel
theorem dX10_holds_107 : decode cX10_holds 107 = .ok (.goto 23, 3) := by decide +kernel
theorem dX10_holds_110 : decode cX10_holds 110 = .ok (.iload_n 3, 1) := by decide +kernel
theorem dX10_holds_111 : decode cX10_holds 111 = .ok (.aload_n 0, 1) := by decide +kernel
theorem dX10_holds_112 : decode cX10_holds 112 = .ok (.getfield 74, 3) := by decide +kernel
theorem dX10_holds_115 : decode cX10_holds 115 = .ok (.iload_n 1, 1) := by decide +kernel
theorem dX10_holds_116 : decode cX10_holds 116 = .ok (.iaload, 1) := by decide +kernel
theorem dX10_holds_117 : decode cX10_holds 117 = .ok (.if_icmp .ge 12, 3) := by decide +kernel
theorem dX10_holds_120 : decode cX10_holds 120 = .ok (.iload 5, 2) := by decide +kernel
theorem dX10_holds_122 : decode cX10_holds 122 = .ok (.ifCond .eq 7, 3) := by decide +kernel
theorem dX10_holds_125 : decode cX10_holds 125 = .ok (.iconst 1, 1) := by decide +kernel
theorem dX10_holds_126 : decode cX10_holds 126 = .ok (.goto 4, 3) := by decide +kernel
theorem dX10_holds_129 : decode cX10_holds 129 = .ok (.iconst 0, 1) := by decide +kernel
theorem dX10_holds_130 : decode cX10_holds 130 = .ok (.ireturn, 1) := by decide +kernel
set_option maxRecDepth 20000 in
theorem ggX10_priceOf_X10_holds : GoodIn wsX10_priceOf wsX10_holds := goodIn_r _ [9, 10, 11, 12, 13, 14, 8, 15, 16, 17, 18, 19, 20, 21, 22, 23, 24, 25, 26, 27, 28, 29, 30, 31, 32, 33, 34, 35, 36, 37, 38, 39, 40, 41, 42, 43, 44, 45, 46, 47, 48, 49] (by decide +kernel) (by decide +kernel)
set_option maxRecDepth 20000 in
theorem gX10_priceOf_X10_holds : GoodIn wsX10_priceOf (wsV RX10 191 RX10 yX10_holds wsX10_holds) := goodIn_app (goodIn_of _ (by decide +kernel)) ggX10_priceOf_X10_holds
theorem dX10_priceOf_0 : decode cX10_priceOf 0 = .ok (.aload_n 0, 1) := by decide +kernel
theorem dX10_priceOf_1 : decode cX10_priceOf 1 = .ok (.getfield 19, 3) := by decide +kernel
theorem dX10_priceOf_4 : decode cX10_priceOf 4 = .ok (.iload_n 1, 1) := by decide +kernel
theorem dX10_priceOf_5 : decode cX10_priceOf 5 = .ok (.iaload, 1) := by decide +kernel
theorem dX10_priceOf_6 : decode cX10_priceOf 6 = .ok (.istore 4, 2) := by decide +kernel
theorem dX10_priceOf_8 : decode cX10_priceOf 8 = .ok (.iconst 0, 1) := by decide +kernel
theorem dX10_priceOf_9 : decode cX10_priceOf 9 = .ok (.istore 5, 2) := by decide +kernel
theorem dX10_priceOf_11 : decode cX10_priceOf 11 = .ok (.iload 5, 2) := by decide +kernel
theorem dX10_priceOf_13 : decode cX10_priceOf 13 = .ok (.aload_n 0, 1) := by decide +kernel
theorem dX10_priceOf_14 : decode cX10_priceOf 14 = .ok (.getfield 188, 3) := by decide +kernel
theorem dX10_priceOf_17 : decode cX10_priceOf 17 = .ok (.if_icmp .ge 44, 3) := by decide +kernel
theorem dX10_priceOf_20 : decode cX10_priceOf 20 = .ok (.aload_n 0, 1) := by decide +kernel
theorem dX10_priceOf_21 : decode cX10_priceOf 21 = .ok (.iload 5, 2) := by decide +kernel
theorem dX10_priceOf_23 : decode cX10_priceOf 23 = .ok (.iload_n 2, 1) := by decide +kernel
theorem dX10_priceOf_24 : decode cX10_priceOf 24 = .ok (.iload_n 3, 1) := by decide +kernel
theorem dX10_priceOf_25 : decode cX10_priceOf 25 = .ok (.invokevirtual 191, 3) := by decide +kernel
theorem dX10_priceOf_28 : decode cX10_priceOf 28 = .ok (.ifCond .eq 23, 3) := by decide +kernel
theorem dX10_priceOf_31 : decode cX10_priceOf 31 = .ok (.aload_n 0, 1) := by decide +kernel
theorem dX10_priceOf_32 : decode cX10_priceOf 32 = .ok (.getfield 19, 3) := by decide +kernel
theorem dX10_priceOf_35 : decode cX10_priceOf 35 = .ok (.iload_n 1, 1) := by decide +kernel
theorem dX10_priceOf_36 : decode cX10_priceOf 36 = .ok (.iaload, 1) := by decide +kernel
theorem dX10_priceOf_37 : decode cX10_priceOf 37 = .ok (.aload_n 0, 1) := by decide +kernel
theorem dX10_priceOf_38 : decode cX10_priceOf 38 = .ok (.getfield 77, 3) := by decide +kernel
theorem dX10_priceOf_41 : decode cX10_priceOf 41 = .ok (.iload 5, 2) := by decide +kernel
theorem dX10_priceOf_43 : decode cX10_priceOf 43 = .ok (.iaload, 1) := by decide +kernel
theorem dX10_priceOf_44 : decode cX10_priceOf 44 = .ok (.imul, 1) := by decide +kernel
theorem dX10_priceOf_45 : decode cX10_priceOf 45 = .ok (.bipush 100, 2) := by decide +kernel
theorem dX10_priceOf_47 : decode cX10_priceOf 47 = .ok (.idiv, 1) := by decide +kernel
theorem dX10_priceOf_48 : decode cX10_priceOf 48 = .ok (.goto 5, 3) := by decide +kernel
theorem dX10_priceOf_51 : decode cX10_priceOf 51 = .ok (.iload 4, 2) := by decide +kernel
theorem dX10_priceOf_53 : decode cX10_priceOf 53 = .ok (.istore 4, 2) := by decide +kernel
theorem dX10_priceOf_55 : decode cX10_priceOf 55 = .ok (.iinc 5 1, 3) := by decide +kernel
theorem dX10_priceOf_58 : decode cX10_priceOf 58 = .ok (.goto (-47), 3) := by decide +kernel
theorem dX10_priceOf_61 : decode cX10_priceOf 61 = .ok (.iload 4, 2) := by decide +kernel
theorem dX10_priceOf_63 : decode cX10_priceOf 63 = .ok (.aload_n 0, 1) := by decide +kernel
theorem dX10_priceOf_64 : decode cX10_priceOf 64 = .ok (.getfield 29, 3) := by decide +kernel
theorem dX10_priceOf_67 : decode cX10_priceOf 67 = .ok (.iconst 4, 1) := by decide +kernel
theorem dX10_priceOf_68 : decode cX10_priceOf 68 = .ok (.iaload, 1) := by decide +kernel
theorem dX10_priceOf_69 : decode cX10_priceOf 69 = .ok (.if_icmp .ge 12, 3) := by decide +kernel
theorem dX10_priceOf_72 : decode cX10_priceOf 72 = .ok (.aload_n 0, 1) := by decide +kernel
theorem dX10_priceOf_73 : decode cX10_priceOf 73 = .ok (.getfield 29, 3) := by decide +kernel
theorem dX10_priceOf_76 : decode cX10_priceOf 76 = .ok (.iconst 4, 1) := by decide +kernel
theorem dX10_priceOf_77 : decode cX10_priceOf 77 = .ok (.iaload, 1) := by decide +kernel
theorem dX10_priceOf_78 : decode cX10_priceOf 78 = .ok (.goto 5, 3) := by decide +kernel
theorem dX10_priceOf_81 : decode cX10_priceOf 81 = .ok (.iload 4, 2) := by decide +kernel
theorem dX10_priceOf_83 : decode cX10_priceOf 83 = .ok (.ireturn, 1) := by decide +kernel
set_option maxRecDepth 20000 in
theorem ggX10_price_X10_isRecipe : GoodIn wsX10_price wsX10_isRecipe := goodIn_r _ [5, 6, 7, 8, 4, 9, 25, 26, 27, 28, 29, 30, 31, 32, 33, 34, 35, 36, 37, 38, 39, 40, 41, 42, 43, 44, 45, 46, 47, 48, 49, 50, 51, 52, 53, 54, 55, 56, 57, 58] (by decide +kernel) (by decide +kernel)
set_option maxRecDepth 20000 in
theorem gX10_price_X10_isRecipe : GoodIn wsX10_price (wsV RX10 103 RX10 yX10_isRecipe wsX10_isRecipe) := goodIn_app (goodIn_of _ (by decide +kernel)) ggX10_price_X10_isRecipe
set_option maxRecDepth 20000 in
theorem ggX10_price_X10_in : GoodIn wsX10_price wsX10_in := goodIn_r _ [9] (by decide +kernel) (by decide +kernel)
set_option maxRecDepth 20000 in
theorem gX10_price_X10_in : GoodIn wsX10_price (va_wsS RX10 96 yX10_in wsX10_in) := goodIn_app (goodIn_of _ (by decide +kernel)) ggX10_price_X10_in
set_option maxRecDepth 20000 in
theorem ggX10_price_X10_priceOf : GoodIn wsX10_price wsX10_priceOf := goodIn_r _ [13, 14, 15, 16, 17, 18, 19, 20, 4, 21, 22, 23, 24, 7, 8, 9, 25, 26, 27, 28, 29, 30, 31, 32, 33, 34, 35, 36, 37, 38, 39, 40, 41, 42, 43, 44, 45, 46, 47, 48, 49, 50, 51, 52, 53, 54, 55, 56, 57, 58] (by decide +kernel) (by decide +kernel)
set_option maxRecDepth 20000 in
theorem gX10_price_X10_priceOf : GoodIn wsX10_price (wsV RX10 144 RX10 yX10_priceOf wsX10_priceOf) := goodIn_app (goodIn_of _ (by decide +kernel)) ggX10_price_X10_priceOf
theorem dX10_price_0 : decode cX10_price 0 = .ok (.aload_n 0, 1) := by decide +kernel
theorem dX10_price_1 : decode cX10_price 1 = .ok (.iload_n 1, 1) := by decide +kernel
theorem dX10_price_2 : decode cX10_price 2 = .ok (.invokevirtual 103, 3) := by decide +kernel
theorem dX10_price_5 : decode cX10_price 5 = .ok (.ifCond .eq 34, 3) := by decide +kernel
theorem dX10_price_8 : decode cX10_price 8 = .ok (.iload_n 2, 1) := by decide +kernel
theorem dX10_price_9 : decode cX10_price 9 = .ok (.iconst 0, 1) := by decide +kernel
theorem dX10_price_10 : decode cX10_price 10 = .ok (.bipush 6, 2) := by decide +kernel
theorem dX10_price_12 : decode cX10_price 12 = .ok (.invokestatic 96, 3) := by decide +kernel
theorem dX10_price_15 : decode cX10_price 15 = .ok (.ifCond .eq 24, 3) := by decide +kernel
theorem dX10_price_18 : decode cX10_price 18 = .ok (.iload_n 3, 1) := by decide +kernel
theorem dX10_price_19 : decode cX10_price 19 = .ok (.iconst 0, 1) := by decide +kernel
theorem dX10_price_20 : decode cX10_price 20 = .ok (.sipush 1439, 3) := by decide +kernel
theorem dX10_price_23 : decode cX10_price 23 = .ok (.invokestatic 96, 3) := by decide +kernel
theorem dX10_price_26 : decode cX10_price 26 = .ok (.ifCond .eq 13, 3) := by decide +kernel
theorem dX10_price_29 : decode cX10_price 29 = .ok (.aload_n 0, 1) := by decide +kernel
theorem dX10_price_30 : decode cX10_price 30 = .ok (.iload_n 1, 1) := by decide +kernel
theorem dX10_price_31 : decode cX10_price 31 = .ok (.iload_n 2, 1) := by decide +kernel
theorem dX10_price_32 : decode cX10_price 32 = .ok (.iload_n 3, 1) := by decide +kernel
theorem dX10_price_33 : decode cX10_price 33 = .ok (.invokevirtual 144, 3) := by decide +kernel
theorem dX10_price_36 : decode cX10_price 36 = .ok (.goto 4, 3) := by decide +kernel
theorem dX10_price_39 : decode cX10_price 39 = .ok (.iconst (-1), 1) := by decide +kernel
theorem dX10_price_40 : decode cX10_price 40 = .ok (.ireturn, 1) := by decide +kernel
set_option maxRecDepth 20000 in
theorem ggX10_person_X10_in : GoodIn wsX10_person wsX10_in := goodIn_r _ [5] (by decide +kernel) (by decide +kernel)
set_option maxRecDepth 20000 in
theorem gX10_person_X10_in : GoodIn wsX10_person (va_wsS RX10 96 yX10_in wsX10_in) := goodIn_app (goodIn_of _ (by decide +kernel)) ggX10_person_X10_in
theorem dX10_person_0 : decode cX10_person 0 = .ok (.iload_n 1, 1) := by decide +kernel
theorem dX10_person_1 : decode cX10_person 1 = .ok (.iconst 0, 1) := by decide +kernel
theorem dX10_person_2 : decode cX10_person 2 = .ok (.iconst 5, 1) := by decide +kernel
theorem dX10_person_3 : decode cX10_person 3 = .ok (.invokestatic 96, 3) := by decide +kernel
theorem dX10_person_6 : decode cX10_person 6 = .ok (.ifCond .eq 24, 3) := by decide +kernel
theorem dX10_person_9 : decode cX10_person 9 = .ok (.iload_n 2, 1) := by decide +kernel
theorem dX10_person_10 : decode cX10_person 10 = .ok (.iconst 0, 1) := by decide +kernel
theorem dX10_person_11 : decode cX10_person 11 = .ok (.bipush 10, 2) := by decide +kernel
theorem dX10_person_13 : decode cX10_person 13 = .ok (.invokestatic 96, 3) := by decide +kernel
theorem dX10_person_16 : decode cX10_person 16 = .ok (.ifCond .eq 14, 3) := by decide +kernel
theorem dX10_person_19 : decode cX10_person 19 = .ok (.iload_n 3, 1) := by decide +kernel
theorem dX10_person_20 : decode cX10_person 20 = .ok (.iconst 0, 1) := by decide +kernel
theorem dX10_person_21 : decode cX10_person 21 = .ok (.sipush 1440, 3) := by decide +kernel
theorem dX10_person_24 : decode cX10_person 24 = .ok (.invokestatic 96, 3) := by decide +kernel
theorem dX10_person_27 : decode cX10_person 27 = .ok (.ifCond .ne 5, 3) := by decide +kernel
theorem dX10_person_30 : decode cX10_person 30 = .ok (.iconst (-1), 1) := by decide +kernel
theorem dX10_person_31 : decode cX10_person 31 = .ok (.ireturn, 1) := by decide +kernel
theorem dX10_person_32 : decode cX10_person 32 = .ok (.aload_n 0, 1) := by decide +kernel
theorem dX10_person_33 : decode cX10_person 33 = .ok (.getfield 80, 3) := by decide +kernel
theorem dX10_person_36 : decode cX10_person 36 = .ok (.iload_n 1, 1) := by decide +kernel
theorem dX10_person_37 : decode cX10_person 37 = .ok (.iload_n 2, 1) := by decide +kernel
theorem dX10_person_38 : decode cX10_person 38 = .ok (.iload_n 3, 1) := by decide +kernel
theorem dX10_person_39 : decode cX10_person 39 = .ok (.imul, 1) := by decide +kernel
theorem dX10_person_40 : decode cX10_person 40 = .ok (.iastore, 1) := by decide +kernel
theorem dX10_person_41 : decode cX10_person 41 = .ok (.iconst 0, 1) := by decide +kernel
theorem dX10_person_42 : decode cX10_person 42 = .ok (.ireturn, 1) := by decide +kernel
set_option maxRecDepth 20000 in
theorem ggX10_tips_X10_in : GoodIn wsX10_tips wsX10_in := goodIn_r _ [6] (by decide +kernel) (by decide +kernel)
set_option maxRecDepth 20000 in
theorem gX10_tips_X10_in : GoodIn wsX10_tips (va_wsS RX10 96 yX10_in wsX10_in) := goodIn_app (goodIn_of _ (by decide +kernel)) ggX10_tips_X10_in
theorem dX10_tips_0 : decode cX10_tips 0 = .ok (.iload_n 1, 1) := by decide +kernel
theorem dX10_tips_1 : decode cX10_tips 1 = .ok (.iconst 0, 1) := by decide +kernel
theorem dX10_tips_2 : decode cX10_tips 2 = .ok (.ldc 194, 2) := by decide +kernel
theorem dX10_tips_4 : decode cX10_tips 4 = .ok (.invokestatic 96, 3) := by decide +kernel
theorem dX10_tips_7 : decode cX10_tips 7 = .ok (.ifCond .eq 12, 3) := by decide +kernel
theorem dX10_tips_10 : decode cX10_tips 10 = .ok (.iload_n 2, 1) := by decide +kernel
theorem dX10_tips_11 : decode cX10_tips 11 = .ok (.iconst 0, 1) := by decide +kernel
theorem dX10_tips_12 : decode cX10_tips 12 = .ok (.iconst 5, 1) := by decide +kernel
theorem dX10_tips_13 : decode cX10_tips 13 = .ok (.invokestatic 96, 3) := by decide +kernel
theorem dX10_tips_16 : decode cX10_tips 16 = .ok (.ifCond .ne 5, 3) := by decide +kernel
theorem dX10_tips_19 : decode cX10_tips 19 = .ok (.iconst (-1), 1) := by decide +kernel
theorem dX10_tips_20 : decode cX10_tips 20 = .ok (.ireturn, 1) := by decide +kernel
theorem dX10_tips_21 : decode cX10_tips 21 = .ok (.lconst 0, 1) := by decide +kernel
theorem dX10_tips_22 : decode cX10_tips 22 = .ok (.lstore_n 3, 1) := by decide +kernel
theorem dX10_tips_23 : decode cX10_tips 23 = .ok (.iconst 0, 1) := by decide +kernel
theorem dX10_tips_24 : decode cX10_tips 24 = .ok (.istore 5, 2) := by decide +kernel
theorem dX10_tips_26 : decode cX10_tips 26 = .ok (.iload 5, 2) := by decide +kernel
theorem dX10_tips_28 : decode cX10_tips 28 = .ok (.bipush 6, 2) := by decide +kernel
theorem dX10_tips_30 : decode cX10_tips 30 = .ok (.if_icmp .ge 20, 3) := by decide +kernel
theorem dX10_tips_33 : decode cX10_tips 33 = .ok (.lload_n 3, 1) := by decide +kernel
theorem dX10_tips_34 : decode cX10_tips 34 = .ok (.aload_n 0, 1) := by decide +kernel
theorem dX10_tips_35 : decode cX10_tips 35 = .ok (.getfield 80, 3) := by decide +kernel
theorem dX10_tips_38 : decode cX10_tips 38 = .ok (.iload 5, 2) := by decide +kernel
theorem dX10_tips_40 : decode cX10_tips 40 = .ok (.iaload, 1) := by decide +kernel
theorem dX10_tips_41 : decode cX10_tips 41 = .ok (.i2l, 1) := by decide +kernel
theorem dX10_tips_42 : decode cX10_tips 42 = .ok (.ladd, 1) := by decide +kernel
theorem dX10_tips_43 : decode cX10_tips 43 = .ok (.lstore_n 3, 1) := by decide +kernel
theorem dX10_tips_44 : decode cX10_tips 44 = .ok (.iinc 5 1, 3) := by decide +kernel
theorem dX10_tips_47 : decode cX10_tips 47 = .ok (.goto (-21), 3) := by decide +kernel
theorem dX10_tips_50 : decode cX10_tips 50 = .ok (.lload_n 3, 1) := by decide +kernel
theorem dX10_tips_51 : decode cX10_tips 51 = .ok (.lconst 0, 1) := by decide +kernel
theorem dX10_tips_52 : decode cX10_tips 52 = .ok (.lcmp, 1) := by decide +kernel
theorem dX10_tips_53 : decode cX10_tips 53 = .ok (.ifCond .ne 6, 3) := by decide +kernel
theorem dX10_tips_56 : decode cX10_tips 56 = .ok (.bipush (-2), 2) := by decide +kernel
theorem dX10_tips_58 : decode cX10_tips 58 = .ok (.ireturn, 1) := by decide +kernel
theorem dX10_tips_59 : decode cX10_tips 59 = .ok (.iload_n 1, 1) := by decide +kernel
theorem dX10_tips_60 : decode cX10_tips 60 = .ok (.i2l, 1) := by decide +kernel
theorem dX10_tips_61 : decode cX10_tips 61 = .ok (.lstore 5, 2) := by decide +kernel
theorem dX10_tips_63 : decode cX10_tips 63 = .ok (.iconst 0, 1) := by decide +kernel
theorem dX10_tips_64 : decode cX10_tips 64 = .ok (.istore 7, 2) := by decide +kernel
theorem dX10_tips_66 : decode cX10_tips 66 = .ok (.iload_n 1, 1) := by decide +kernel
theorem dX10_tips_67 : decode cX10_tips 67 = .ok (.i2l, 1) := by decide +kernel
theorem dX10_tips_68 : decode cX10_tips 68 = .ok (.aload_n 0, 1) := by decide +kernel
theorem dX10_tips_69 : decode cX10_tips 69 = .ok (.getfield 80, 3) := by decide +kernel
theorem dX10_tips_72 : decode cX10_tips 72 = .ok (.iload_n 2, 1) := by decide +kernel
theorem dX10_tips_73 : decode cX10_tips 73 = .ok (.iaload, 1) := by decide +kernel
theorem dX10_tips_74 : decode cX10_tips 74 = .ok (.i2l, 1) := by decide +kernel
theorem dX10_tips_75 : decode cX10_tips 75 = .ok (.lmul, 1) := by decide +kernel
theorem dX10_tips_76 : decode cX10_tips 76 = .ok (.lload_n 3, 1) := by decide +kernel
theorem dX10_tips_77 : decode cX10_tips 77 = .ok (.lrem, 1) := by decide +kernel
theorem dX10_tips_78 : decode cX10_tips 78 = .ok (.lstore 8, 2) := by decide +kernel
theorem dX10_tips_80 : decode cX10_tips 80 = .ok (.iconst 0, 1) := by decide +kernel
theorem dX10_tips_81 : decode cX10_tips 81 = .ok (.istore 10, 2) := by decide +kernel
theorem dX10_tips_83 : decode cX10_tips 83 = .ok (.iload 10, 2) := by decide +kernel
theorem dX10_tips_85 : decode cX10_tips 85 = .ok (.bipush 6, 2) := by decide +kernel
theorem dX10_tips_87 : decode cX10_tips 87 = .ok (.if_icmp .ge 74, 3) := by decide +kernel
theorem dX10_tips_90 : decode cX10_tips 90 = .ok (.lload 5, 2) := by decide +kernel
theorem dX10_tips_92 : decode cX10_tips 92 = .ok (.iload_n 1, 1) := by decide +kernel
theorem dX10_tips_93 : decode cX10_tips 93 = .ok (.i2l, 1) := by decide +kernel
theorem dX10_tips_94 : decode cX10_tips 94 = .ok (.aload_n 0, 1) := by decide +kernel
theorem dX10_tips_95 : decode cX10_tips 95 = .ok (.getfield 80, 3) := by decide +kernel
theorem dX10_tips_98 : decode cX10_tips 98 = .ok (.iload 10, 2) := by decide +kernel
theorem dX10_tips_100 : decode cX10_tips 100 = .ok (.iaload, 1) := by decide +kernel
theorem dX10_tips_101 : decode cX10_tips 101 = .ok (.i2l, 1) := by decide +kernel
theorem dX10_tips_102 : decode cX10_tips 102 = .ok (.lmul, 1) := by decide +kernel
theorem dX10_tips_103 : decode cX10_tips 103 = .ok (.lload_n 3, 1) := by decide +kernel
theorem dX10_tips_104 : decode cX10_tips 104 = .ok (.ldiv, 1) := by decide +kernel
theorem dX10_tips_105 : decode cX10_tips 105 = .ok (.lsub, 1) := by decide +kernel
theorem dX10_tips_106 : decode cX10_tips 106 = .ok (.lstore 5, 2) := by decide +kernel
theorem dX10_tips_108 : decode cX10_tips 108 = .ok (.iload_n 1, 1) := by decide +kernel
theorem dX10_tips_109 : decode cX10_tips 109 = .ok (.i2l, 1) := by decide +kernel
theorem dX10_tips_110 : decode cX10_tips 110 = .ok (.aload_n 0, 1) := by decide +kernel
theorem dX10_tips_111 : decode cX10_tips 111 = .ok (.getfield 80, 3) := by decide +kernel
theorem dX10_tips_114 : decode cX10_tips 114 = .ok (.iload 10, 2) := by decide +kernel
theorem dX10_tips_116 : decode cX10_tips 116 = .ok (.iaload, 1) := by decide +kernel
theorem dX10_tips_117 : decode cX10_tips 117 = .ok (.i2l, 1) := by decide +kernel
theorem dX10_tips_118 : decode cX10_tips 118 = .ok (.lmul, 1) := by decide +kernel
theorem dX10_tips_119 : decode cX10_tips 119 = .ok (.lload_n 3, 1) := by decide +kernel
theorem dX10_tips_120 : decode cX10_tips 120 = .ok (.lrem, 1) := by decide +kernel
theorem dX10_tips_121 : decode cX10_tips 121 = .ok (.lstore 11, 2) := by decide +kernel
theorem dX10_tips_123 : decode cX10_tips 123 = .ok (.iload 7, 2) := by decide +kernel
theorem dX10_tips_125 : decode cX10_tips 125 = .ok (.lload 11, 2) := by decide +kernel
theorem dX10_tips_127 : decode cX10_tips 127 = .ok (.lload 8, 2) := by decide +kernel
theorem dX10_tips_129 : decode cX10_tips 129 = .ok (.lcmp, 1) := by decide +kernel
theorem dX10_tips_130 : decode cX10_tips 130 = .ok (.ifCond .gt 17, 3) := by decide +kernel
theorem dX10_tips_133 : decode cX10_tips 133 = .ok (.lload 11, 2) := by decide +kernel
theorem dX10_tips_135 : decode cX10_tips 135 = .ok (.lload 8, 2) := by decide +kernel
theorem dX10_tips_137 : decode cX10_tips 137 = .ok (.lcmp, 1) := by decide +kernel
theorem dX10_tips_138 : decode cX10_tips 138 = .ok (.ifCond .ne 13, 3) := by decide +kernel
theorem dX10_tips_141 : decode cX10_tips 141 = .ok (.iload 10, 2) := by decide +kernel
theorem dX10_tips_143 : decode cX10_tips 143 = .ok (.iload_n 2, 1) := by decide +kernel
theorem dX10_tips_144 : decode cX10_tips 144 = .ok (.if_icmp .ge 7, 3) := by decide +kernel
theorem dX10_tips_147 : decode cX10_tips 147 = .ok (.iconst 1, 1) := by decide +kernel
theorem dX10_tips_148 : decode cX10_tips 148 = .ok (.goto 4, 3) := by decide +kernel
theorem dX10_tips_151 : decode cX10_tips 151 = .ok (.iconst 0, 1) := by decide +kernel
theorem dX10_tips_152 : decode cX10_tips 152 = .ok (.iadd, 1) := by decide +kernel
theorem dX10_tips_153 : decode cX10_tips 153 = .ok (.istore 7, 2) := by decide +kernel
theorem dX10_tips_155 : decode cX10_tips 155 = .ok (.iinc 10 1, 3) := by decide +kernel
theorem dX10_tips_158 : decode cX10_tips 158 = .ok (.goto (-75), 3) := by decide +kernel
theorem dX10_tips_161 : decode cX10_tips 161 = .ok (.iload_n 1, 1) := by decide +kernel
theorem dX10_tips_162 : decode cX10_tips 162 = .ok (.i2l, 1) := by decide +kernel
theorem dX10_tips_163 : decode cX10_tips 163 = .ok (.aload_n 0, 1) := by decide +kernel
theorem dX10_tips_164 : decode cX10_tips 164 = .ok (.getfield 80, 3) := by decide +kernel
theorem dX10_tips_167 : decode cX10_tips 167 = .ok (.iload_n 2, 1) := by decide +kernel
theorem dX10_tips_168 : decode cX10_tips 168 = .ok (.iaload, 1) := by decide +kernel
theorem dX10_tips_169 : decode cX10_tips 169 = .ok (.i2l, 1) := by decide +kernel
theorem dX10_tips_170 : decode cX10_tips 170 = .ok (.lmul, 1) := by decide +kernel
theorem dX10_tips_171 : decode cX10_tips 171 = .ok (.lload_n 3, 1) := by decide +kernel
theorem dX10_tips_172 : decode cX10_tips 172 = .ok (.ldiv, 1) := by decide +kernel
theorem dX10_tips_173 : decode cX10_tips 173 = .ok (.l2i, 1) := by decide +kernel
theorem dX10_tips_174 : decode cX10_tips 174 = .ok (.iload 7, 2) := by decide +kernel
theorem dX10_tips_176 : decode cX10_tips 176 = .ok (.i2l, 1) := by decide +kernel
theorem dX10_tips_177 : decode cX10_tips 177 = .ok (.lload 5, 2) := by decide +kernel
theorem dX10_tips_179 : decode cX10_tips 179 = .ok (.lcmp, 1) := by decide +kernel
theorem dX10_tips_180 : decode cX10_tips 180 = .ok (.ifCond .ge 7, 3) := by decide +kernel
theorem dX10_tips_183 : decode cX10_tips 183 = .ok (.iconst 1, 1) := by decide +kernel
theorem dX10_tips_184 : decode cX10_tips 184 = .ok (.goto 4, 3) := by decide +kernel
theorem dX10_tips_187 : decode cX10_tips 187 = .ok (.iconst 0, 1) := by decide +kernel
theorem dX10_tips_188 : decode cX10_tips 188 = .ok (.iadd, 1) := by decide +kernel
theorem dX10_tips_189 : decode cX10_tips 189 = .ok (.ireturn, 1) := by decide +kernel
set_option maxRecDepth 20000 in
theorem ggX10_keg_X10_in : GoodIn wsX10_keg wsX10_in := goodIn_r _ [7] (by decide +kernel) (by decide +kernel)
set_option maxRecDepth 20000 in
theorem gX10_keg_X10_in : GoodIn wsX10_keg (va_wsS RX10 96 yX10_in wsX10_in) := goodIn_app (goodIn_of _ (by decide +kernel)) ggX10_keg_X10_in
theorem dX10_keg_0 : decode cX10_keg 0 = .ok (.iload_n 1, 1) := by decide +kernel
theorem dX10_keg_1 : decode cX10_keg 1 = .ok (.sipush 1000, 3) := by decide +kernel
theorem dX10_keg_4 : decode cX10_keg 4 = .ok (.ldc 195, 2) := by decide +kernel
theorem dX10_keg_6 : decode cX10_keg 6 = .ok (.invokestatic 96, 3) := by decide +kernel
theorem dX10_keg_9 : decode cX10_keg 9 = .ok (.ifCond .eq 13, 3) := by decide +kernel
theorem dX10_keg_12 : decode cX10_keg 12 = .ok (.iload_n 2, 1) := by decide +kernel
theorem dX10_keg_13 : decode cX10_keg 13 = .ok (.iconst 0, 1) := by decide +kernel
theorem dX10_keg_14 : decode cX10_keg 14 = .ok (.bipush 40, 2) := by decide +kernel
theorem dX10_keg_16 : decode cX10_keg 16 = .ok (.invokestatic 96, 3) := by decide +kernel
theorem dX10_keg_19 : decode cX10_keg 19 = .ok (.ifCond .ne 5, 3) := by decide +kernel
theorem dX10_keg_22 : decode cX10_keg 22 = .ok (.iconst (-1), 1) := by decide +kernel
theorem dX10_keg_23 : decode cX10_keg 23 = .ok (.ireturn, 1) := by decide +kernel
theorem dX10_keg_24 : decode cX10_keg 24 = .ok (.aload_n 0, 1) := by decide +kernel
theorem dX10_keg_25 : decode cX10_keg 25 = .ok (.getfield 29, 3) := by decide +kernel
theorem dX10_keg_28 : decode cX10_keg 28 = .ok (.iconst 5, 1) := by decide +kernel
theorem dX10_keg_29 : decode cX10_keg 29 = .ok (.iaload, 1) := by decide +kernel
theorem dX10_keg_30 : decode cX10_keg 30 = .ok (.iload_n 2, 1) := by decide +kernel
theorem dX10_keg_31 : decode cX10_keg 31 = .ok (.iconst 4, 1) := by decide +kernel
theorem dX10_keg_32 : decode cX10_keg 32 = .ok (.if_icmp .le 17, 3) := by decide +kernel
theorem dX10_keg_35 : decode cX10_keg 35 = .ok (.aload_n 0, 1) := by decide +kernel
theorem dX10_keg_36 : decode cX10_keg 36 = .ok (.getfield 29, 3) := by decide +kernel
theorem dX10_keg_39 : decode cX10_keg 39 = .ok (.bipush 6, 2) := by decide +kernel
theorem dX10_keg_41 : decode cX10_keg 41 = .ok (.iaload, 1) := by decide +kernel
theorem dX10_keg_42 : decode cX10_keg 42 = .ok (.iload_n 2, 1) := by decide +kernel
theorem dX10_keg_43 : decode cX10_keg 43 = .ok (.iconst 4, 1) := by decide +kernel
theorem dX10_keg_44 : decode cX10_keg 44 = .ok (.isub, 1) := by decide +kernel
theorem dX10_keg_45 : decode cX10_keg 45 = .ok (.imul, 1) := by decide +kernel
theorem dX10_keg_46 : decode cX10_keg 46 = .ok (.goto 4, 3) := by decide +kernel
theorem dX10_keg_49 : decode cX10_keg 49 = .ok (.iconst 0, 1) := by decide +kernel
theorem dX10_keg_50 : decode cX10_keg 50 = .ok (.iadd, 1) := by decide +kernel
theorem dX10_keg_51 : decode cX10_keg 51 = .ok (.istore_n 3, 1) := by decide +kernel
theorem dX10_keg_52 : decode cX10_keg 52 = .ok (.iload_n 3, 1) := by decide +kernel
theorem dX10_keg_53 : decode cX10_keg 53 = .ok (.bipush 90, 2) := by decide +kernel
theorem dX10_keg_55 : decode cX10_keg 55 = .ok (.if_icmp .le 8, 3) := by decide +kernel
theorem dX10_keg_58 : decode cX10_keg 58 = .ok (.bipush 90, 2) := by decide +kernel
theorem dX10_keg_60 : decode cX10_keg 60 = .ok (.goto 4, 3) := by decide +kernel
theorem dX10_keg_63 : decode cX10_keg 63 = .ok (.iload_n 3, 1) := by decide +kernel
theorem dX10_keg_64 : decode cX10_keg 64 = .ok (.istore_n 3, 1) := by decide +kernel
theorem dX10_keg_65 : decode cX10_keg 65 = .ok (.iload_n 1, 1) := by decide +kernel
theorem dX10_keg_66 : decode cX10_keg 66 = .ok (.bipush 100, 2) := by decide +kernel
theorem dX10_keg_68 : decode cX10_keg 68 = .ok (.iload_n 3, 1) := by decide +kernel
theorem dX10_keg_69 : decode cX10_keg 69 = .ok (.isub, 1) := by decide +kernel
theorem dX10_keg_70 : decode cX10_keg 70 = .ok (.imul, 1) := by decide +kernel
theorem dX10_keg_71 : decode cX10_keg 71 = .ok (.ldc 196, 2) := by decide +kernel
theorem dX10_keg_73 : decode cX10_keg 73 = .ok (.idiv, 1) := by decide +kernel
theorem dX10_keg_74 : decode cX10_keg 74 = .ok (.ireturn, 1) := by decide +kernel
set_option maxRecDepth 20000 in
theorem ggX10_deal_X10_in : GoodIn wsX10_deal wsX10_in := goodIn_r _ [8] (by decide +kernel) (by decide +kernel)
set_option maxRecDepth 20000 in
theorem gX10_deal_X10_in : GoodIn wsX10_deal (va_wsS RX10 96 yX10_in wsX10_in) := goodIn_app (goodIn_of _ (by decide +kernel)) ggX10_deal_X10_in
theorem dX10_deal_0 : decode cX10_deal 0 = .ok (.iload_n 1, 1) := by decide +kernel
theorem dX10_deal_1 : decode cX10_deal 1 = .ok (.iconst 1, 1) := by decide +kernel
theorem dX10_deal_2 : decode cX10_deal 2 = .ok (.bipush 24, 2) := by decide +kernel
theorem dX10_deal_4 : decode cX10_deal 4 = .ok (.invokestatic 96, 3) := by decide +kernel
theorem dX10_deal_7 : decode cX10_deal 7 = .ok (.ifCond .eq 13, 3) := by decide +kernel
theorem dX10_deal_10 : decode cX10_deal 10 = .ok (.iload_n 2, 1) := by decide +kernel
theorem dX10_deal_11 : decode cX10_deal 11 = .ok (.iconst 0, 1) := by decide +kernel
theorem dX10_deal_12 : decode cX10_deal 12 = .ok (.ldc 195, 2) := by decide +kernel
theorem dX10_deal_14 : decode cX10_deal 14 = .ok (.invokestatic 96, 3) := by decide +kernel
theorem dX10_deal_17 : decode cX10_deal 17 = .ok (.ifCond .ne 5, 3) := by decide +kernel
theorem dX10_deal_20 : decode cX10_deal 20 = .ok (.iconst (-1), 1) := by decide +kernel
theorem dX10_deal_21 : decode cX10_deal 21 = .ok (.ireturn, 1) := by decide +kernel
theorem dX10_deal_22 : decode cX10_deal 22 = .ok (.aload_n 0, 1) := by decide +kernel
theorem dX10_deal_23 : decode cX10_deal 23 = .ok (.getfield 197, 3) := by decide +kernel
theorem dX10_deal_26 : decode cX10_deal 26 = .ok (.iconst 5, 1) := by decide +kernel
theorem dX10_deal_27 : decode cX10_deal 27 = .ok (.if_icmp .ne 6, 3) := by decide +kernel
theorem dX10_deal_30 : decode cX10_deal 30 = .ok (.bipush (-3), 2) := by decide +kernel
theorem dX10_deal_32 : decode cX10_deal 32 = .ok (.ireturn, 1) := by decide +kernel
theorem dX10_deal_33 : decode cX10_deal 33 = .ok (.aload_n 0, 1) := by decide +kernel
theorem dX10_deal_34 : decode cX10_deal 34 = .ok (.getfield 83, 3) := by decide +kernel
theorem dX10_deal_37 : decode cX10_deal 37 = .ok (.aload_n 0, 1) := by decide +kernel
theorem dX10_deal_38 : decode cX10_deal 38 = .ok (.getfield 197, 3) := by decide +kernel
theorem dX10_deal_41 : decode cX10_deal 41 = .ok (.iload_n 1, 1) := by decide +kernel
theorem dX10_deal_42 : decode cX10_deal 42 = .ok (.iastore, 1) := by decide +kernel
theorem dX10_deal_43 : decode cX10_deal 43 = .ok (.aload_n 0, 1) := by decide +kernel
theorem dX10_deal_44 : decode cX10_deal 44 = .ok (.getfield 86, 3) := by decide +kernel
theorem dX10_deal_47 : decode cX10_deal 47 = .ok (.aload_n 0, 1) := by decide +kernel
theorem dX10_deal_48 : decode cX10_deal 48 = .ok (.getfield 197, 3) := by decide +kernel
theorem dX10_deal_51 : decode cX10_deal 51 = .ok (.iload_n 2, 1) := by decide +kernel
theorem dX10_deal_52 : decode cX10_deal 52 = .ok (.iastore, 1) := by decide +kernel
theorem dX10_deal_53 : decode cX10_deal 53 = .ok (.aload_n 0, 1) := by decide +kernel
theorem dX10_deal_54 : decode cX10_deal 54 = .ok (.dup, 1) := by decide +kernel
theorem dX10_deal_55 : decode cX10_deal 55 = .ok (.getfield 197, 3) := by decide +kernel
theorem dX10_deal_58 : decode cX10_deal 58 = .ok (.iconst 1, 1) := by decide +kernel
theorem dX10_deal_59 : decode cX10_deal 59 = .ok (.iadd, 1) := by decide +kernel
theorem dX10_deal_60 : decode cX10_deal 60 = .ok (.putfield 197, 3) := by decide +kernel
theorem dX10_deal_63 : decode cX10_deal 63 = .ok (.aload_n 0, 1) := by decide +kernel
theorem dX10_deal_64 : decode cX10_deal 64 = .ok (.getfield 197, 3) := by decide +kernel
theorem dX10_deal_67 : decode cX10_deal 67 = .ok (.ireturn, 1) := by decide +kernel
set_option maxRecDepth 20000 in
theorem ggX10_buy_X10_in : GoodIn wsX10_buy wsX10_in := goodIn_r _ [9] (by decide +kernel) (by decide +kernel)
set_option maxRecDepth 20000 in
theorem gX10_buy_X10_in : GoodIn wsX10_buy (va_wsS RX10 96 yX10_in wsX10_in) := goodIn_app (goodIn_of _ (by decide +kernel)) ggX10_buy_X10_in
theorem dX10_buy_0 : decode cX10_buy 0 = .ok (.iload_n 1, 1) := by decide +kernel
theorem dX10_buy_1 : decode cX10_buy 1 = .ok (.iconst 1, 1) := by decide +kernel
theorem dX10_buy_2 : decode cX10_buy 2 = .ok (.bipush 120, 2) := by decide +kernel
theorem dX10_buy_4 : decode cX10_buy 4 = .ok (.invokestatic 96, 3) := by decide +kernel
theorem dX10_buy_7 : decode cX10_buy 7 = .ok (.ifCond .eq 17, 3) := by decide +kernel
theorem dX10_buy_10 : decode cX10_buy 10 = .ok (.iload_n 2, 1) := by decide +kernel
theorem dX10_buy_11 : decode cX10_buy 11 = .ok (.iconst 0, 1) := by decide +kernel
theorem dX10_buy_12 : decode cX10_buy 12 = .ok (.iconst 1, 1) := by decide +kernel
theorem dX10_buy_13 : decode cX10_buy 13 = .ok (.aload_n 0, 1) := by decide +kernel
theorem dX10_buy_14 : decode cX10_buy 14 = .ok (.getfield 197, 3) := by decide +kernel
theorem dX10_buy_17 : decode cX10_buy 17 = .ok (.iadd, 1) := by decide +kernel
theorem dX10_buy_18 : decode cX10_buy 18 = .ok (.invokestatic 96, 3) := by decide +kernel
theorem dX10_buy_21 : decode cX10_buy 21 = .ok (.ifCond .ne 5, 3) := by decide +kernel
theorem dX10_buy_24 : decode cX10_buy 24 = .ok (.iconst (-1), 1) := by decide +kernel
theorem dX10_buy_25 : decode cX10_buy 25 = .ok (.ireturn, 1) := by decide +kernel
theorem dX10_buy_26 : decode cX10_buy 26 = .ok (.aload_n 0, 1) := by decide +kernel
theorem dX10_buy_27 : decode cX10_buy 27 = .ok (.getfield 197, 3) := by decide +kernel
theorem dX10_buy_30 : decode cX10_buy 30 = .ok (.ifCond .ne 6, 3) := by decide +kernel
theorem dX10_buy_33 : decode cX10_buy 33 = .ok (.bipush (-2), 2) := by decide +kernel
theorem dX10_buy_35 : decode cX10_buy 35 = .ok (.ireturn, 1) := by decide +kernel
theorem dX10_buy_36 : decode cX10_buy 36 = .ok (.aload_n 0, 1) := by decide +kernel
theorem dX10_buy_37 : decode cX10_buy 37 = .ok (.getfield 197, 3) := by decide +kernel
theorem dX10_buy_40 : decode cX10_buy 40 = .ok (.istore_n 3, 1) := by decide +kernel
theorem dX10_buy_41 : decode cX10_buy 41 = .ok (.iload_n 3, 1) := by decide +kernel
theorem dX10_buy_42 : decode cX10_buy 42 = .ok (.ifCond .lt 146, 3) := by decide +kernel
theorem dX10_buy_45 : decode cX10_buy 45 = .ok (.iconst 0, 1) := by decide +kernel
theorem dX10_buy_46 : decode cX10_buy 46 = .ok (.istore 4, 2) := by decide +kernel
theorem dX10_buy_48 : decode cX10_buy 48 = .ok (.iload 4, 2) := by decide +kernel
theorem dX10_buy_50 : decode cX10_buy 50 = .ok (.sipush 150, 3) := by decide +kernel
theorem dX10_buy_53 : decode cX10_buy 53 = .ok (.if_icmp .ge 129, 3) := by decide +kernel
theorem dX10_buy_56 : decode cX10_buy 56 = .ok (.iload_n 3, 1) := by decide +kernel
theorem dX10_buy_57 : decode cX10_buy 57 = .ok (.aload_n 0, 1) := by decide +kernel
theorem dX10_buy_58 : decode cX10_buy 58 = .ok (.getfield 197, 3) := by decide +kernel
theorem dX10_buy_61 : decode cX10_buy 61 = .ok (.if_icmp .ne 17, 3) := by decide +kernel
theorem dX10_buy_64 : decode cX10_buy 64 = .ok (.iload 4, 2) := by decide +kernel
theorem dX10_buy_66 : decode cX10_buy 66 = .ok (.ifCond .ne 7, 3) := by decide +kernel
theorem dX10_buy_69 : decode cX10_buy 69 = .ok (.iconst 0, 1) := by decide +kernel
theorem dX10_buy_70 : decode cX10_buy 70 = .ok (.goto 25, 3) := by decide +kernel
theorem dX10_buy_73 : decode cX10_buy 73 = .ok (.ldc 200, 2) := by decide +kernel
theorem dX10_buy_75 : decode cX10_buy 75 = .ok (.goto 20, 3) := by decide +kernel
theorem dX10_buy_78 : decode cX10_buy 78 = .ok (.aload_n 0, 1) := by decide +kernel
theorem dX10_buy_79 : decode cX10_buy 79 = .ok (.getfield 89, 3) := by decide +kernel
theorem dX10_buy_82 : decode cX10_buy 82 = .ok (.sipush 150, 3) := by decide +kernel
theorem dX10_buy_85 : decode cX10_buy 85 = .ok (.iload_n 3, 1) := by decide +kernel
theorem dX10_buy_86 : decode cX10_buy 86 = .ok (.imul, 1) := by decide +kernel
theorem dX10_buy_87 : decode cX10_buy 87 = .ok (.sipush 150, 3) := by decide +kernel
theorem dX10_buy_90 : decode cX10_buy 90 = .ok (.iadd, 1) := by decide +kernel
theorem dX10_buy_91 : decode cX10_buy 91 = .ok (.iload 4, 2) := by decide +kernel
theorem dX10_buy_93 : decode cX10_buy 93 = .ok (.iadd, 1) := by decide +kernel
theorem dX10_buy_94 : decode cX10_buy 94 = .ok (.iaload, 1) := by decide +kernel
theorem dX10_buy_95 : decode cX10_buy 95 = .ok (.istore 5, 2) := by decide +kernel
theorem dX10_buy_97 : decode cX10_buy 97 = .ok (.iload_n 3, 1) := by decide +kernel
theorem dX10_buy_98 : decode cX10_buy 98 = .ok (.aload_n 0, 1) := by decide +kernel
theorem dX10_buy_99 : decode cX10_buy 99 = .ok (.getfield 197, 3) := by decide +kernel
theorem dX10_buy_102 : decode cX10_buy 102 = .ok (.if_icmp .ge 59, 3) := by decide +kernel
theorem dX10_buy_105 : decode cX10_buy 105 = .ok (.iload 4, 2) := by decide +kernel
theorem dX10_buy_107 : decode cX10_buy 107 = .ok (.aload_n 0, 1) := by decide +kernel
theorem dX10_buy_108 : decode cX10_buy 108 = .ok (.getfield 83, 3) := by decide +kernel
theorem dX10_buy_111 : decode cX10_buy 111 = .ok (.iload_n 3, 1) := by decide +kernel
theorem dX10_buy_112 : decode cX10_buy 112 = .ok (.iaload, 1) := by decide +kernel
theorem dX10_buy_113 : decode cX10_buy 113 = .ok (.if_icmp .lt 48, 3) := by decide +kernel
theorem dX10_buy_116 : decode cX10_buy 116 = .ok (.aload_n 0, 1) := by decide +kernel
theorem dX10_buy_117 : decode cX10_buy 117 = .ok (.getfield 89, 3) := by decide +kernel
theorem dX10_buy_120 : decode cX10_buy 120 = .ok (.sipush 150, 3) := by decide +kernel
theorem dX10_buy_123 : decode cX10_buy 123 = .ok (.iload_n 3, 1) := by decide +kernel
theorem dX10_buy_124 : decode cX10_buy 124 = .ok (.imul, 1) := by decide +kernel
theorem dX10_buy_125 : decode cX10_buy 125 = .ok (.iload 4, 2) := by decide +kernel
theorem dX10_buy_127 : decode cX10_buy 127 = .ok (.iadd, 1) := by decide +kernel
theorem dX10_buy_128 : decode cX10_buy 128 = .ok (.aload_n 0, 1) := by decide +kernel
theorem dX10_buy_129 : decode cX10_buy 129 = .ok (.getfield 83, 3) := by decide +kernel
theorem dX10_buy_132 : decode cX10_buy 132 = .ok (.iload_n 3, 1) := by decide +kernel
theorem dX10_buy_133 : decode cX10_buy 133 = .ok (.iaload, 1) := by decide +kernel
theorem dX10_buy_134 : decode cX10_buy 134 = .ok (.isub, 1) := by decide +kernel
theorem dX10_buy_135 : decode cX10_buy 135 = .ok (.iaload, 1) := by decide +kernel
theorem dX10_buy_136 : decode cX10_buy 136 = .ok (.aload_n 0, 1) := by decide +kernel
theorem dX10_buy_137 : decode cX10_buy 137 = .ok (.getfield 86, 3) := by decide +kernel
theorem dX10_buy_140 : decode cX10_buy 140 = .ok (.iload_n 3, 1) := by decide +kernel
theorem dX10_buy_141 : decode cX10_buy 141 = .ok (.iaload, 1) := by decide +kernel
theorem dX10_buy_142 : decode cX10_buy 142 = .ok (.iadd, 1) := by decide +kernel
theorem dX10_buy_143 : decode cX10_buy 143 = .ok (.istore 6, 2) := by decide +kernel
theorem dX10_buy_145 : decode cX10_buy 145 = .ok (.iload 6, 2) := by decide +kernel
theorem dX10_buy_147 : decode cX10_buy 147 = .ok (.iload 5, 2) := by decide +kernel
theorem dX10_buy_149 : decode cX10_buy 149 = .ok (.if_icmp .ge 8, 3) := by decide +kernel
theorem dX10_buy_152 : decode cX10_buy 152 = .ok (.iload 6, 2) := by decide +kernel
theorem dX10_buy_154 : decode cX10_buy 154 = .ok (.goto 5, 3) := by decide +kernel
theorem dX10_buy_157 : decode cX10_buy 157 = .ok (.iload 5, 2) := by decide +kernel
theorem dX10_buy_159 : decode cX10_buy 159 = .ok (.istore 5, 2) := by decide +kernel
theorem dX10_buy_161 : decode cX10_buy 161 = .ok (.aload_n 0, 1) := by decide +kernel
theorem dX10_buy_162 : decode cX10_buy 162 = .ok (.getfield 89, 3) := by decide +kernel
theorem dX10_buy_165 : decode cX10_buy 165 = .ok (.sipush 150, 3) := by decide +kernel
theorem dX10_buy_168 : decode cX10_buy 168 = .ok (.iload_n 3, 1) := by decide +kernel
theorem dX10_buy_169 : decode cX10_buy 169 = .ok (.imul, 1) := by decide +kernel
theorem dX10_buy_170 : decode cX10_buy 170 = .ok (.iload 4, 2) := by decide +kernel
theorem dX10_buy_172 : decode cX10_buy 172 = .ok (.iadd, 1) := by decide +kernel
theorem dX10_buy_173 : decode cX10_buy 173 = .ok (.iload 5, 2) := by decide +kernel
theorem dX10_buy_175 : decode cX10_buy 175 = .ok (.iastore, 1) := by decide +kernel
theorem dX10_buy_176 : decode cX10_buy 176 = .ok (.iinc 4 1, 3) := by decide +kernel
theorem dX10_buy_179 : decode cX10_buy 179 = .ok (.goto (-131), 3) := by decide +kernel
theorem dX10_buy_182 : decode cX10_buy 182 = .ok (.iinc 3 (-1), 3) := by decide +kernel
theorem dX10_buy_185 : decode cX10_buy 185 = .ok (.goto (-144), 3) := by decide +kernel
theorem dX10_buy_188 : decode cX10_buy 188 = .ok (.iload_n 1, 1) := by decide +kernel
theorem dX10_buy_189 : decode cX10_buy 189 = .ok (.istore_n 3, 1) := by decide +kernel
theorem dX10_buy_190 : decode cX10_buy 190 = .ok (.iload_n 1, 1) := by decide +kernel
theorem dX10_buy_191 : decode cX10_buy 191 = .ok (.istore 4, 2) := by decide +kernel
theorem dX10_buy_193 : decode cX10_buy 193 = .ok (.iload 4, 2) := by decide +kernel
theorem dX10_buy_195 : decode cX10_buy 195 = .ok (.sipush 150, 3) := by decide +kernel
theorem dX10_buy_198 : decode cX10_buy 198 = .ok (.if_icmp .ge 32, 3) := by decide +kernel
theorem dX10_buy_201 : decode cX10_buy 201 = .ok (.aload_n 0, 1) := by decide +kernel
theorem dX10_buy_202 : decode cX10_buy 202 = .ok (.getfield 89, 3) := by decide +kernel
theorem dX10_buy_205 : decode cX10_buy 205 = .ok (.iload 4, 2) := by decide +kernel
theorem dX10_buy_207 : decode cX10_buy 207 = .ok (.iaload, 1) := by decide +kernel
theorem dX10_buy_208 : decode cX10_buy 208 = .ok (.aload_n 0, 1) := by decide +kernel
theorem dX10_buy_209 : decode cX10_buy 209 = .ok (.getfield 89, 3) := by decide +kernel
theorem dX10_buy_212 : decode cX10_buy 212 = .ok (.iload_n 3, 1) := by decide +kernel
theorem dX10_buy_213 : decode cX10_buy 213 = .ok (.iaload, 1) := by decide +kernel
theorem dX10_buy_214 : decode cX10_buy 214 = .ok (.if_icmp .ge 8, 3) := by decide +kernel
theorem dX10_buy_217 : decode cX10_buy 217 = .ok (.iload 4, 2) := by decide +kernel
theorem dX10_buy_219 : decode cX10_buy 219 = .ok (.goto 4, 3) := by decide +kernel
theorem dX10_buy_222 : decode cX10_buy 222 = .ok (.iload_n 3, 1) := by decide +kernel
theorem dX10_buy_223 : decode cX10_buy 223 = .ok (.istore_n 3, 1) := by decide +kernel
theorem dX10_buy_224 : decode cX10_buy 224 = .ok (.iinc 4 1, 3) := by decide +kernel
theorem dX10_buy_227 : decode cX10_buy 227 = .ok (.goto (-34), 3) := by decide +kernel
theorem dX10_buy_230 : decode cX10_buy 230 = .ok (.iload_n 2, 1) := by decide +kernel
theorem dX10_buy_231 : decode cX10_buy 231 = .ok (.iconst 2, 1) := by decide +kernel
theorem dX10_buy_232 : decode cX10_buy 232 = .ok (.if_icmp .ge 18, 3) := by decide +kernel
theorem dX10_buy_235 : decode cX10_buy 235 = .ok (.iload_n 2, 1) := by decide +kernel
theorem dX10_buy_236 : decode cX10_buy 236 = .ok (.ifCond .ne 12, 3) := by decide +kernel
theorem dX10_buy_239 : decode cX10_buy 239 = .ok (.aload_n 0, 1) := by decide +kernel
theorem dX10_buy_240 : decode cX10_buy 240 = .ok (.getfield 89, 3) := by decide +kernel
theorem dX10_buy_243 : decode cX10_buy 243 = .ok (.iload_n 3, 1) := by decide +kernel
theorem dX10_buy_244 : decode cX10_buy 244 = .ok (.iaload, 1) := by decide +kernel
theorem dX10_buy_245 : decode cX10_buy 245 = .ok (.goto 4, 3) := by decide +kernel
theorem dX10_buy_248 : decode cX10_buy 248 = .ok (.iload_n 3, 1) := by decide +kernel
theorem dX10_buy_249 : decode cX10_buy 249 = .ok (.ireturn, 1) := by decide +kernel
theorem dX10_buy_250 : decode cX10_buy 250 = .ok (.iload_n 3, 1) := by decide +kernel
theorem dX10_buy_251 : decode cX10_buy 251 = .ok (.istore 4, 2) := by decide +kernel
theorem dX10_buy_253 : decode cX10_buy 253 = .ok (.iconst 0, 1) := by decide +kernel
theorem dX10_buy_254 : decode cX10_buy 254 = .ok (.istore 5, 2) := by decide +kernel
theorem dX10_buy_256 : decode cX10_buy 256 = .ok (.iconst 0, 1) := by decide +kernel
theorem dX10_buy_257 : decode cX10_buy 257 = .ok (.istore 6, 2) := by decide +kernel
theorem dX10_buy_259 : decode cX10_buy 259 = .ok (.iload 6, 2) := by decide +kernel
theorem dX10_buy_261 : decode cX10_buy 261 = .ok (.iload_n 2, 1) := by decide +kernel
theorem dX10_buy_262 : decode cX10_buy 262 = .ok (.iconst 2, 1) := by decide +kernel
theorem dX10_buy_263 : decode cX10_buy 263 = .ok (.isub, 1) := by decide +kernel
theorem dX10_buy_264 : decode cX10_buy 264 = .ok (.if_icmp .gt 99, 3) := by decide +kernel
theorem dX10_buy_267 : decode cX10_buy 267 = .ok (.iload 4, 2) := by decide +kernel
theorem dX10_buy_269 : decode cX10_buy 269 = .ok (.aload_n 0, 1) := by decide +kernel
theorem dX10_buy_270 : decode cX10_buy 270 = .ok (.getfield 83, 3) := by decide +kernel
theorem dX10_buy_273 : decode cX10_buy 273 = .ok (.iload 6, 2) := by decide +kernel
theorem dX10_buy_275 : decode cX10_buy 275 = .ok (.iaload, 1) := by decide +kernel
theorem dX10_buy_276 : decode cX10_buy 276 = .ok (.idiv, 1) := by decide +kernel
theorem dX10_buy_277 : decode cX10_buy 277 = .ok (.istore 5, 2) := by decide +kernel
theorem dX10_buy_279 : decode cX10_buy 279 = .ok (.aload_n 0, 1) := by decide +kernel
theorem dX10_buy_280 : decode cX10_buy 280 = .ok (.getfield 89, 3) := by decide +kernel
theorem dX10_buy_283 : decode cX10_buy 283 = .ok (.sipush 150, 3) := by decide +kernel
theorem dX10_buy_286 : decode cX10_buy 286 = .ok (.iload 6, 2) := by decide +kernel
theorem dX10_buy_288 : decode cX10_buy 288 = .ok (.imul, 1) := by decide +kernel
theorem dX10_buy_289 : decode cX10_buy 289 = .ok (.sipush 150, 3) := by decide +kernel
theorem dX10_buy_292 : decode cX10_buy 292 = .ok (.iadd, 1) := by decide +kernel
theorem dX10_buy_293 : decode cX10_buy 293 = .ok (.iload 4, 2) := by decide +kernel
theorem dX10_buy_295 : decode cX10_buy 295 = .ok (.iadd, 1) := by decide +kernel
theorem dX10_buy_296 : decode cX10_buy 296 = .ok (.iload 5, 2) := by decide +kernel
theorem dX10_buy_298 : decode cX10_buy 298 = .ok (.aload_n 0, 1) := by decide +kernel
theorem dX10_buy_299 : decode cX10_buy 299 = .ok (.getfield 83, 3) := by decide +kernel
theorem dX10_buy_302 : decode cX10_buy 302 = .ok (.iload 6, 2) := by decide +kernel
theorem dX10_buy_304 : decode cX10_buy 304 = .ok (.iaload, 1) := by decide +kernel
theorem dX10_buy_305 : decode cX10_buy 305 = .ok (.imul, 1) := by decide +kernel
theorem dX10_buy_306 : decode cX10_buy 306 = .ok (.isub, 1) := by decide +kernel
theorem dX10_buy_307 : decode cX10_buy 307 = .ok (.iaload, 1) := by decide +kernel
theorem dX10_buy_308 : decode cX10_buy 308 = .ok (.iload 5, 2) := by decide +kernel
theorem dX10_buy_310 : decode cX10_buy 310 = .ok (.aload_n 0, 1) := by decide +kernel
theorem dX10_buy_311 : decode cX10_buy 311 = .ok (.getfield 86, 3) := by decide +kernel
theorem dX10_buy_314 : decode cX10_buy 314 = .ok (.iload 6, 2) := by decide +kernel
theorem dX10_buy_316 : decode cX10_buy 316 = .ok (.iaload, 1) := by decide +kernel
theorem dX10_buy_317 : decode cX10_buy 317 = .ok (.imul, 1) := by decide +kernel
theorem dX10_buy_318 : decode cX10_buy 318 = .ok (.iadd, 1) := by decide +kernel
theorem dX10_buy_319 : decode cX10_buy 319 = .ok (.aload_n 0, 1) := by decide +kernel
theorem dX10_buy_320 : decode cX10_buy 320 = .ok (.getfield 89, 3) := by decide +kernel
theorem dX10_buy_323 : decode cX10_buy 323 = .ok (.sipush 150, 3) := by decide +kernel
theorem dX10_buy_326 : decode cX10_buy 326 = .ok (.iload 6, 2) := by decide +kernel
theorem dX10_buy_328 : decode cX10_buy 328 = .ok (.imul, 1) := by decide +kernel
theorem dX10_buy_329 : decode cX10_buy 329 = .ok (.iload 4, 2) := by decide +kernel
theorem dX10_buy_331 : decode cX10_buy 331 = .ok (.iadd, 1) := by decide +kernel
theorem dX10_buy_332 : decode cX10_buy 332 = .ok (.iaload, 1) := by decide +kernel
theorem dX10_buy_333 : decode cX10_buy 333 = .ok (.if_icmp .eq 9, 3) := by decide +kernel
theorem dX10_buy_336 : decode cX10_buy 336 = .ok (.iinc 5 (-1), 3) := by decide +kernel
theorem dX10_buy_339 : decode cX10_buy 339 = .ok (.goto (-60), 3) := by decide +kernel
theorem dX10_buy_342 : decode cX10_buy 342 = .ok (.iload 4, 2) := by decide +kernel
theorem dX10_buy_344 : decode cX10_buy 344 = .ok (.iload 5, 2) := by decide +kernel
theorem dX10_buy_346 : decode cX10_buy 346 = .ok (.aload_n 0, 1) := by decide +kernel
theorem dX10_buy_347 : decode cX10_buy 347 = .ok (.getfield 83, 3) := by decide +kernel
theorem dX10_buy_350 : decode cX10_buy 350 = .ok (.iload 6, 2) := by decide +kernel
theorem dX10_buy_352 : decode cX10_buy 352 = .ok (.iaload, 1) := by decide +kernel
theorem dX10_buy_353 : decode cX10_buy 353 = .ok (.imul, 1) := by decide +kernel
theorem dX10_buy_354 : decode cX10_buy 354 = .ok (.isub, 1) := by decide +kernel
theorem dX10_buy_355 : decode cX10_buy 355 = .ok (.istore 4, 2) := by decide +kernel
theorem dX10_buy_357 : decode cX10_buy 357 = .ok (.iinc 6 1, 3) := by decide +kernel
theorem dX10_buy_360 : decode cX10_buy 360 = .ok (.goto (-101), 3) := by decide +kernel
theorem dX10_buy_363 : decode cX10_buy 363 = .ok (.iload 5, 2) := by decide +kernel
theorem dX10_buy_365 : decode cX10_buy 365 = .ok (.ireturn, 1) := by decide +kernel
theorem dX10_count_0 : decode cX10_count 0 = .ok (.iload_n 1, 1) := by decide +kernel
theorem dX10_count_1 : decode cX10_count 1 = .ok (.tableswitch 78 0 6 #[43, 48, 53, 58, 63, 68, 73], 43) := by decide +kernel
theorem dX10_count_44 : decode cX10_count 44 = .ok (.aload_n 0, 1) := by decide +kernel
theorem dX10_count_45 : decode cX10_count 45 = .ok (.getfield 92, 3) := by decide +kernel
theorem dX10_count_48 : decode cX10_count 48 = .ok (.ireturn, 1) := by decide +kernel
theorem dX10_count_49 : decode cX10_count 49 = .ok (.aload_n 0, 1) := by decide +kernel
theorem dX10_count_50 : decode cX10_count 50 = .ok (.getfield 100, 3) := by decide +kernel
theorem dX10_count_53 : decode cX10_count 53 = .ok (.ireturn, 1) := by decide +kernel
theorem dX10_count_54 : decode cX10_count 54 = .ok (.aload_n 0, 1) := by decide +kernel
theorem dX10_count_55 : decode cX10_count 55 = .ok (.getfield 117, 3) := by decide +kernel
theorem dX10_count_58 : decode cX10_count 58 = .ok (.ireturn, 1) := by decide +kernel
theorem dX10_count_59 : decode cX10_count 59 = .ok (.aload_n 0, 1) := by decide +kernel
theorem dX10_count_60 : decode cX10_count 60 = .ok (.getfield 114, 3) := by decide +kernel
theorem dX10_count_63 : decode cX10_count 63 = .ok (.ireturn, 1) := by decide +kernel
theorem dX10_count_64 : decode cX10_count 64 = .ok (.aload_n 0, 1) := by decide +kernel
theorem dX10_count_65 : decode cX10_count 65 = .ok (.getfield 188, 3) := by decide +kernel
theorem dX10_count_68 : decode cX10_count 68 = .ok (.ireturn, 1) := by decide +kernel
theorem dX10_count_69 : decode cX10_count 69 = .ok (.aload_n 0, 1) := by decide +kernel
theorem dX10_count_70 : decode cX10_count 70 = .ok (.getfield 197, 3) := by decide +kernel
theorem dX10_count_73 : decode cX10_count 73 = .ok (.ireturn, 1) := by decide +kernel
theorem dX10_count_74 : decode cX10_count 74 = .ok (.aload_n 0, 1) := by decide +kernel
theorem dX10_count_75 : decode cX10_count 75 = .ok (.getfield 176, 3) := by decide +kernel
theorem dX10_count_78 : decode cX10_count 78 = .ok (.ireturn, 1) := by decide +kernel
theorem dX10_count_79 : decode cX10_count 79 = .ok (.iconst (-1), 1) := by decide +kernel
theorem dX10_count_80 : decode cX10_count 80 = .ok (.ireturn, 1) := by decide +kernel
theorem dJ6_bitCount_0f7a4_0 : decode cJ6_bitCount_0f7a4 0 = .ok (.iload_n 0, 1) := by decide +kernel
theorem dJ6_bitCount_0f7a4_1 : decode cJ6_bitCount_0f7a4 1 = .ok (.iload_n 0, 1) := by decide +kernel
theorem dJ6_bitCount_0f7a4_2 : decode cJ6_bitCount_0f7a4 2 = .ok (.iconst 1, 1) := by decide +kernel
theorem dJ6_bitCount_0f7a4_3 : decode cJ6_bitCount_0f7a4 3 = .ok (.iushr, 1) := by decide +kernel
theorem dJ6_bitCount_0f7a4_4 : decode cJ6_bitCount_0f7a4 4 = .ok (.ldc_w 265, 3) := by decide +kernel
theorem dJ6_bitCount_0f7a4_7 : decode cJ6_bitCount_0f7a4 7 = .ok (.iand, 1) := by decide +kernel
theorem dJ6_bitCount_0f7a4_8 : decode cJ6_bitCount_0f7a4 8 = .ok (.isub, 1) := by decide +kernel
theorem dJ6_bitCount_0f7a4_9 : decode cJ6_bitCount_0f7a4 9 = .ok (.istore_n 0, 1) := by decide +kernel
theorem dJ6_bitCount_0f7a4_10 : decode cJ6_bitCount_0f7a4 10 = .ok (.iload_n 0, 1) := by decide +kernel
theorem dJ6_bitCount_0f7a4_11 : decode cJ6_bitCount_0f7a4 11 = .ok (.ldc_w 266, 3) := by decide +kernel
theorem dJ6_bitCount_0f7a4_14 : decode cJ6_bitCount_0f7a4 14 = .ok (.iand, 1) := by decide +kernel
theorem dJ6_bitCount_0f7a4_15 : decode cJ6_bitCount_0f7a4 15 = .ok (.iload_n 0, 1) := by decide +kernel
theorem dJ6_bitCount_0f7a4_16 : decode cJ6_bitCount_0f7a4 16 = .ok (.iconst 2, 1) := by decide +kernel
theorem dJ6_bitCount_0f7a4_17 : decode cJ6_bitCount_0f7a4 17 = .ok (.iushr, 1) := by decide +kernel
theorem dJ6_bitCount_0f7a4_18 : decode cJ6_bitCount_0f7a4 18 = .ok (.ldc_w 266, 3) := by decide +kernel
theorem dJ6_bitCount_0f7a4_21 : decode cJ6_bitCount_0f7a4 21 = .ok (.iand, 1) := by decide +kernel
theorem dJ6_bitCount_0f7a4_22 : decode cJ6_bitCount_0f7a4 22 = .ok (.iadd, 1) := by decide +kernel
theorem dJ6_bitCount_0f7a4_23 : decode cJ6_bitCount_0f7a4 23 = .ok (.istore_n 0, 1) := by decide +kernel
theorem dJ6_bitCount_0f7a4_24 : decode cJ6_bitCount_0f7a4 24 = .ok (.iload_n 0, 1) := by decide +kernel
theorem dJ6_bitCount_0f7a4_25 : decode cJ6_bitCount_0f7a4 25 = .ok (.iload_n 0, 1) := by decide +kernel
theorem dJ6_bitCount_0f7a4_26 : decode cJ6_bitCount_0f7a4 26 = .ok (.iconst 4, 1) := by decide +kernel
