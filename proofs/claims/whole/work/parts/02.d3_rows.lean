theorem dX10_sells_53 : decode cX10_sells 53 = .ok (.iload 5, 2) := by decide +kernel
theorem dX10_sells_55 : decode cX10_sells 55 = .ok (.imul, 1) := by decide +kernel
theorem dX10_sells_56 : decode cX10_sells 56 = .ok (.dup2, 1) := by decide +kernel
theorem dX10_sells_57 : decode cX10_sells 57 = .ok (.iaload, 1) := by decide +kernel
theorem dX10_sells_58 : decode cX10_sells 58 = .ok (.bipush 6, 2) := by decide +kernel
theorem dX10_sells_60 : decode cX10_sells 60 = .ok (.iload 6, 2) := by decide +kernel
theorem dX10_sells_62 : decode cX10_sells 62 = .ok (.imul, 1) := by decide +kernel
theorem dX10_sells_63 : decode cX10_sells 63 = .ok (.iload_n 3, 1) := by decide +kernel
theorem dX10_sells_64 : decode cX10_sells 64 = .ok (.imul, 1) := by decide +kernel
theorem dX10_sells_65 : decode cX10_sells 65 = .ok (.iadd, 1) := by decide +kernel
theorem dX10_sells_66 : decode cX10_sells 66 = .ok (.iastore, 1) := by decide +kernel
theorem dX10_sells_67 : decode cX10_sells 67 = .ok (.aload_n 0, 1) := by decide +kernel
theorem dX10_sells_68 : decode cX10_sells 68 = .ok (.getfield 44, 3) := by decide +kernel
theorem dX10_sells_71 : decode cX10_sells 71 = .ok (.aload_n 0, 1) := by decide +kernel
theorem dX10_sells_72 : decode cX10_sells 72 = .ok (.getfield 117, 3) := by decide +kernel
theorem dX10_sells_75 : decode cX10_sells 75 = .ok (.iload_n 1, 1) := by decide +kernel
theorem dX10_sells_76 : decode cX10_sells 76 = .ok (.iload 5, 2) := by decide +kernel
theorem dX10_sells_78 : decode cX10_sells 78 = .ok (.invokestatic 120, 3) := by decide +kernel
theorem dX10_sells_81 : decode cX10_sells 81 = .ok (.dup2, 1) := by decide +kernel
theorem dX10_sells_82 : decode cX10_sells 82 = .ok (.iaload, 1) := by decide +kernel
theorem dX10_sells_83 : decode cX10_sells 83 = .ok (.iload 6, 2) := by decide +kernel
theorem dX10_sells_85 : decode cX10_sells 85 = .ok (.ifCond .le 7, 3) := by decide +kernel
theorem dX10_sells_88 : decode cX10_sells 88 = .ok (.iload_n 3, 1) := by decide +kernel
theorem dX10_sells_89 : decode cX10_sells 89 = .ok (.goto 4, 3) := by decide +kernel
theorem dX10_sells_92 : decode cX10_sells 92 = .ok (.iconst 0, 1) := by decide +kernel
theorem dX10_sells_93 : decode cX10_sells 93 = .ok (.iadd, 1) := by decide +kernel
theorem dX10_sells_94 : decode cX10_sells 94 = .ok (.iastore, 1) := by decide +kernel
theorem dX10_sells_95 : decode cX10_sells 95 = .ok (.iinc 5 1, 3) := by decide +kernel
theorem dX10_sells_98 : decode cX10_sells 98 = .ok (.goto (-95), 3) := by decide +kernel
theorem dX10_sells_101 : decode cX10_sells 101 = .ok (.aload_n 0, 1) := by decide +kernel
theorem dX10_sells_102 : decode cX10_sells 102 = .ok (.getfield 56, 3) := by decide +kernel
theorem dX10_sells_105 : decode cX10_sells 105 = .ok (.iload_n 1, 1) := by decide +kernel
theorem dX10_sells_106 : decode cX10_sells 106 = .ok (.dup2, 1) := by decide +kernel
theorem dX10_sells_107 : decode cX10_sells 107 = .ok (.iaload, 1) := by decide +kernel
theorem dX10_sells_108 : decode cX10_sells 108 = .ok (.iload 4, 2) := by decide +kernel
theorem dX10_sells_110 : decode cX10_sells 110 = .ok (.iadd, 1) := by decide +kernel
theorem dX10_sells_111 : decode cX10_sells 111 = .ok (.iastore, 1) := by decide +kernel
theorem dX10_sells_112 : decode cX10_sells 112 = .ok (.return_, 1) := by decide +kernel
theorem dX10_loses_0 : decode cX10_loses 0 = .ok (.aload_n 0, 1) := by decide +kernel
theorem dX10_loses_1 : decode cX10_loses 1 = .ok (.getfield 35, 3) := by decide +kernel
theorem dX10_loses_4 : decode cX10_loses 4 = .ok (.bipush 10, 2) := by decide +kernel
theorem dX10_loses_6 : decode cX10_loses 6 = .ok (.iload_n 1, 1) := by decide +kernel
theorem dX10_loses_7 : decode cX10_loses 7 = .ok (.imul, 1) := by decide +kernel
theorem dX10_loses_8 : decode cX10_loses 8 = .ok (.iload_n 2, 1) := by decide +kernel
theorem dX10_loses_9 : decode cX10_loses 9 = .ok (.iadd, 1) := by decide +kernel
theorem dX10_loses_10 : decode cX10_loses 10 = .ok (.dup2, 1) := by decide +kernel
theorem dX10_loses_11 : decode cX10_loses 11 = .ok (.iaload, 1) := by decide +kernel
theorem dX10_loses_12 : decode cX10_loses 12 = .ok (.iload 4, 2) := by decide +kernel
theorem dX10_loses_14 : decode cX10_loses 14 = .ok (.isub, 1) := by decide +kernel
theorem dX10_loses_15 : decode cX10_loses 15 = .ok (.iastore, 1) := by decide +kernel
theorem dX10_loses_16 : decode cX10_loses 16 = .ok (.aload_n 0, 1) := by decide +kernel
theorem dX10_loses_17 : decode cX10_loses 17 = .ok (.getfield 53, 3) := by decide +kernel
theorem dX10_loses_20 : decode cX10_loses 20 = .ok (.iconst 5, 1) := by decide +kernel
theorem dX10_loses_21 : decode cX10_loses 21 = .ok (.iload_n 2, 1) := by decide +kernel
theorem dX10_loses_22 : decode cX10_loses 22 = .ok (.imul, 1) := by decide +kernel
theorem dX10_loses_23 : decode cX10_loses 23 = .ok (.iconst 1, 1) := by decide +kernel
theorem dX10_loses_24 : decode cX10_loses 24 = .ok (.iadd, 1) := by decide +kernel
theorem dX10_loses_25 : decode cX10_loses 25 = .ok (.iload_n 3, 1) := by decide +kernel
theorem dX10_loses_26 : decode cX10_loses 26 = .ok (.iadd, 1) := by decide +kernel
theorem dX10_loses_27 : decode cX10_loses 27 = .ok (.dup2, 1) := by decide +kernel
theorem dX10_loses_28 : decode cX10_loses 28 = .ok (.iaload, 1) := by decide +kernel
theorem dX10_loses_29 : decode cX10_loses 29 = .ok (.iload 4, 2) := by decide +kernel
theorem dX10_loses_31 : decode cX10_loses 31 = .ok (.iadd, 1) := by decide +kernel
theorem dX10_loses_32 : decode cX10_loses 32 = .ok (.iastore, 1) := by decide +kernel
theorem dX10_loses_33 : decode cX10_loses 33 = .ok (.return_, 1) := by decide +kernel
set_option maxRecDepth 20000 in
theorem ggX10_receive_X10_isKind : GoodIn wsX10_receive wsX10_isKind := goodIn_r _ [6, 7, 8, 9, 5, 10, 22, 23, 24, 25, 26, 27, 28, 29, 30, 31, 32, 33, 34, 35, 36, 37, 38, 39, 40, 41, 42, 43, 44, 45, 46, 47, 48, 49, 50, 51, 52, 53, 54, 55] (by decide +kernel) (by decide +kernel)
set_option maxRecDepth 20000 in
theorem gX10_receive_X10_isKind : GoodIn wsX10_receive (wsV RX10 107 RX10 yX10_isKind wsX10_isKind) := goodIn_app (goodIn_of _ (by decide +kernel)) ggX10_receive_X10_isKind
set_option maxRecDepth 20000 in
theorem ggX10_receive_X10_in : GoodIn wsX10_receive wsX10_in := goodIn_r _ [10] (by decide +kernel) (by decide +kernel)
set_option maxRecDepth 20000 in
theorem gX10_receive_X10_in : GoodIn wsX10_receive (va_wsS RX10 96 yX10_in wsX10_in) := goodIn_app (goodIn_of _ (by decide +kernel)) ggX10_receive_X10_in
set_option maxRecDepth 20000 in
theorem ggX10_receive_X10_receives : GoodIn wsX10_receive wsX10_receives := goodIn_r _ [14, 1, 15, 22, 23, 24, 25, 26, 27, 28, 29, 30, 31, 32, 33, 34, 35, 36, 37, 38, 39, 40, 41, 42, 43, 44, 45, 46, 47, 48, 49, 50, 51, 52, 53, 54, 55] (by decide +kernel) (by decide +kernel)
set_option maxRecDepth 20000 in
theorem gX10_receive_X10_receives : GoodIn wsX10_receive (wsV RX10 124 RX10 yX10_receives wsX10_receives) := goodIn_app (goodIn_of _ (by decide +kernel)) ggX10_receive_X10_receives
set_option maxRecDepth 20000 in
theorem ggX10_receive_X10_keeps : GoodIn wsX10_receive wsX10_keeps := goodIn_r _ [19, 20, 21, 22, 23, 24, 25, 26, 27, 28, 29, 30, 31, 32, 33, 34, 35, 36, 37, 38, 39, 40, 41, 42, 43, 44, 45, 46, 47, 48, 49, 50, 51, 52, 53, 54, 55] (by decide +kernel) (by decide +kernel)
set_option maxRecDepth 20000 in
theorem gX10_receive_X10_keeps : GoodIn wsX10_receive (wsV RX10 128 RX10 yX10_keeps wsX10_keeps) := goodIn_app (goodIn_of _ (by decide +kernel)) ggX10_receive_X10_keeps
theorem dX10_receive_0 : decode cX10_receive 0 = .ok (.aload_n 0, 1) := by decide +kernel
theorem dX10_receive_1 : decode cX10_receive 1 = .ok (.iload_n 1, 1) := by decide +kernel
theorem dX10_receive_2 : decode cX10_receive 2 = .ok (.invokevirtual 107, 3) := by decide +kernel
theorem dX10_receive_5 : decode cX10_receive 5 = .ok (.ifCond .eq 13, 3) := by decide +kernel
theorem dX10_receive_8 : decode cX10_receive 8 = .ok (.iload_n 2, 1) := by decide +kernel
theorem dX10_receive_9 : decode cX10_receive 9 = .ok (.iconst 1, 1) := by decide +kernel
theorem dX10_receive_10 : decode cX10_receive 10 = .ok (.bipush 100, 2) := by decide +kernel
theorem dX10_receive_12 : decode cX10_receive 12 = .ok (.invokestatic 96, 3) := by decide +kernel
theorem dX10_receive_15 : decode cX10_receive 15 = .ok (.ifCond .ne 5, 3) := by decide +kernel
theorem dX10_receive_18 : decode cX10_receive 18 = .ok (.iconst (-1), 1) := by decide +kernel
theorem dX10_receive_19 : decode cX10_receive 19 = .ok (.ireturn, 1) := by decide +kernel
theorem dX10_receive_20 : decode cX10_receive 20 = .ok (.aload_n 0, 1) := by decide +kernel
theorem dX10_receive_21 : decode cX10_receive 21 = .ok (.getfield 32, 3) := by decide +kernel
theorem dX10_receive_24 : decode cX10_receive 24 = .ok (.iload_n 1, 1) := by decide +kernel
theorem dX10_receive_25 : decode cX10_receive 25 = .ok (.iaload, 1) := by decide +kernel
theorem dX10_receive_26 : decode cX10_receive 26 = .ok (.iload_n 2, 1) := by decide +kernel
theorem dX10_receive_27 : decode cX10_receive 27 = .ok (.iadd, 1) := by decide +kernel
theorem dX10_receive_28 : decode cX10_receive 28 = .ok (.sipush 1000, 3) := by decide +kernel
theorem dX10_receive_31 : decode cX10_receive 31 = .ok (.if_icmp .le 6, 3) := by decide +kernel
theorem dX10_receive_34 : decode cX10_receive 34 = .ok (.bipush (-3), 2) := by decide +kernel
theorem dX10_receive_36 : decode cX10_receive 36 = .ok (.ireturn, 1) := by decide +kernel
theorem dX10_receive_37 : decode cX10_receive 37 = .ok (.aload_n 0, 1) := by decide +kernel
theorem dX10_receive_38 : decode cX10_receive 38 = .ok (.iload_n 1, 1) := by decide +kernel
theorem dX10_receive_39 : decode cX10_receive 39 = .ok (.iload_n 2, 1) := by decide +kernel
theorem dX10_receive_40 : decode cX10_receive 40 = .ok (.invokevirtual 124, 3) := by decide +kernel
theorem dX10_receive_43 : decode cX10_receive 43 = .ok (.aload_n 0, 1) := by decide +kernel
theorem dX10_receive_44 : decode cX10_receive 44 = .ok (.iconst 0, 1) := by decide +kernel
theorem dX10_receive_45 : decode cX10_receive 45 = .ok (.iconst 0, 1) := by decide +kernel
theorem dX10_receive_46 : decode cX10_receive 46 = .ok (.iload_n 1, 1) := by decide +kernel
theorem dX10_receive_47 : decode cX10_receive 47 = .ok (.iload_n 2, 1) := by decide +kernel
theorem dX10_receive_48 : decode cX10_receive 48 = .ok (.iconst 0, 1) := by decide +kernel
theorem dX10_receive_49 : decode cX10_receive 49 = .ok (.iconst 0, 1) := by decide +kernel
theorem dX10_receive_50 : decode cX10_receive 50 = .ok (.invokevirtual 128, 3) := by decide +kernel
theorem dX10_receive_53 : decode cX10_receive 53 = .ok (.aload_n 0, 1) := by decide +kernel
theorem dX10_receive_54 : decode cX10_receive 54 = .ok (.getfield 32, 3) := by decide +kernel
theorem dX10_receive_57 : decode cX10_receive 57 = .ok (.iload_n 1, 1) := by decide +kernel
theorem dX10_receive_58 : decode cX10_receive 58 = .ok (.iaload, 1) := by decide +kernel
theorem dX10_receive_59 : decode cX10_receive 59 = .ok (.ireturn, 1) := by decide +kernel
set_option maxRecDepth 20000 in
theorem ggX10_issue_X10_isBar : GoodIn wsX10_issue wsX10_isBar := goodIn_r _ [8, 9, 10, 7, 11] (by decide +kernel) (by decide +kernel)
set_option maxRecDepth 20000 in
theorem gX10_issue_X10_isBar : GoodIn wsX10_issue (va_wsS RX10 132 yX10_isBar wsX10_isBar) := goodIn_app (goodIn_of _ (by decide +kernel)) ggX10_issue_X10_isBar
set_option maxRecDepth 20000 in
theorem ggX10_issue_X10_isKind : GoodIn wsX10_issue wsX10_isKind := goodIn_r _ [15, 16, 9, 10, 7, 11, 28, 29, 30, 31, 32, 33, 34, 35, 36, 37, 38, 39, 40, 41, 42, 43, 44, 45, 46, 47, 48, 49, 50, 51, 52, 53, 54, 55, 56, 57, 58, 59, 60, 61] (by decide +kernel) (by decide +kernel)
set_option maxRecDepth 20000 in
theorem gX10_issue_X10_isKind : GoodIn wsX10_issue (wsV RX10 107 RX10 yX10_isKind wsX10_isKind) := goodIn_app (goodIn_of _ (by decide +kernel)) ggX10_issue_X10_isKind
set_option maxRecDepth 20000 in
theorem ggX10_issue_X10_in : GoodIn wsX10_issue wsX10_in := goodIn_r _ [11] (by decide +kernel) (by decide +kernel)
set_option maxRecDepth 20000 in
theorem gX10_issue_X10_in : GoodIn wsX10_issue (va_wsS RX10 96 yX10_in wsX10_in) := goodIn_app (goodIn_of _ (by decide +kernel)) ggX10_issue_X10_in
set_option maxRecDepth 20000 in
theorem ggX10_issue_X10_issues : GoodIn wsX10_issue wsX10_issues := goodIn_r _ [20, 2, 4, 21, 28, 29, 30, 31, 32, 33, 34, 35, 36, 37, 38, 39, 40, 41, 42, 43, 44, 45, 46, 47, 48, 49, 50, 51, 52, 53, 54, 55, 56, 57, 58, 59, 60, 61] (by decide +kernel) (by decide +kernel)
set_option maxRecDepth 20000 in
theorem gX10_issue_X10_issues : GoodIn wsX10_issue (wsV RX10 137 RX10 yX10_issues wsX10_issues) := goodIn_app (goodIn_of _ (by decide +kernel)) ggX10_issue_X10_issues
set_option maxRecDepth 20000 in
theorem ggX10_issue_X10_keeps : GoodIn wsX10_issue wsX10_keeps := goodIn_r _ [25, 26, 27, 28, 29, 30, 31, 32, 33, 34, 35, 36, 37, 38, 39, 40, 41, 42, 43, 44, 45, 46, 47, 48, 49, 50, 51, 52, 53, 54, 55, 56, 57, 58, 59, 60, 61] (by decide +kernel) (by decide +kernel)
set_option maxRecDepth 20000 in
theorem gX10_issue_X10_keeps : GoodIn wsX10_issue (wsV RX10 128 RX10 yX10_keeps wsX10_keeps) := goodIn_app (goodIn_of _ (by decide +kernel)) ggX10_issue_X10_keeps
theorem dX10_issue_0 : decode cX10_issue 0 = .ok (.iload_n 1, 1) := by decide +kernel
theorem dX10_issue_1 : decode cX10_issue 1 = .ok (.invokestatic 132, 3) := by decide +kernel
theorem dX10_issue_4 : decode cX10_issue 4 = .ok (.ifCond .eq 21, 3) := by decide +kernel
theorem dX10_issue_7 : decode cX10_issue 7 = .ok (.aload_n 0, 1) := by decide +kernel
theorem dX10_issue_8 : decode cX10_issue 8 = .ok (.iload_n 2, 1) := by decide +kernel
theorem dX10_issue_9 : decode cX10_issue 9 = .ok (.invokevirtual 107, 3) := by decide +kernel
theorem dX10_issue_12 : decode cX10_issue 12 = .ok (.ifCond .eq 13, 3) := by decide +kernel
theorem dX10_issue_15 : decode cX10_issue 15 = .ok (.iload_n 3, 1) := by decide +kernel
theorem dX10_issue_16 : decode cX10_issue 16 = .ok (.iconst 1, 1) := by decide +kernel
theorem dX10_issue_17 : decode cX10_issue 17 = .ok (.bipush 100, 2) := by decide +kernel
theorem dX10_issue_19 : decode cX10_issue 19 = .ok (.invokestatic 96, 3) := by decide +kernel
theorem dX10_issue_22 : decode cX10_issue 22 = .ok (.ifCond .ne 6, 3) := by decide +kernel
theorem dX10_issue_25 : decode cX10_issue 25 = .ok (.ldc 135, 2) := by decide +kernel
theorem dX10_issue_27 : decode cX10_issue 27 = .ok (.ireturn, 1) := by decide +kernel
theorem dX10_issue_28 : decode cX10_issue 28 = .ok (.aload_n 0, 1) := by decide +kernel
theorem dX10_issue_29 : decode cX10_issue 29 = .ok (.getfield 32, 3) := by decide +kernel
theorem dX10_issue_32 : decode cX10_issue 32 = .ok (.iload_n 2, 1) := by decide +kernel
theorem dX10_issue_33 : decode cX10_issue 33 = .ok (.iaload, 1) := by decide +kernel
theorem dX10_issue_34 : decode cX10_issue 34 = .ok (.iload_n 3, 1) := by decide +kernel
theorem dX10_issue_35 : decode cX10_issue 35 = .ok (.if_icmp .ge 6, 3) := by decide +kernel
theorem dX10_issue_38 : decode cX10_issue 38 = .ok (.ldc 136, 2) := by decide +kernel
theorem dX10_issue_40 : decode cX10_issue 40 = .ok (.ireturn, 1) := by decide +kernel
theorem dX10_issue_41 : decode cX10_issue 41 = .ok (.aload_n 0, 1) := by decide +kernel
theorem dX10_issue_42 : decode cX10_issue 42 = .ok (.iload_n 1, 1) := by decide +kernel
theorem dX10_issue_43 : decode cX10_issue 43 = .ok (.iload_n 2, 1) := by decide +kernel
theorem dX10_issue_44 : decode cX10_issue 44 = .ok (.iload_n 3, 1) := by decide +kernel
theorem dX10_issue_45 : decode cX10_issue 45 = .ok (.invokevirtual 137, 3) := by decide +kernel
theorem dX10_issue_48 : decode cX10_issue 48 = .ok (.aload_n 0, 1) := by decide +kernel
theorem dX10_issue_49 : decode cX10_issue 49 = .ok (.iconst 1, 1) := by decide +kernel
theorem dX10_issue_50 : decode cX10_issue 50 = .ok (.iload_n 1, 1) := by decide +kernel
theorem dX10_issue_51 : decode cX10_issue 51 = .ok (.iload_n 2, 1) := by decide +kernel
theorem dX10_issue_52 : decode cX10_issue 52 = .ok (.iload_n 3, 1) := by decide +kernel
theorem dX10_issue_53 : decode cX10_issue 53 = .ok (.iconst 0, 1) := by decide +kernel
theorem dX10_issue_54 : decode cX10_issue 54 = .ok (.iconst 0, 1) := by decide +kernel
theorem dX10_issue_55 : decode cX10_issue 55 = .ok (.invokevirtual 128, 3) := by decide +kernel
theorem dX10_issue_58 : decode cX10_issue 58 = .ok (.aload_n 0, 1) := by decide +kernel
theorem dX10_issue_59 : decode cX10_issue 59 = .ok (.getfield 35, 3) := by decide +kernel
theorem dX10_issue_62 : decode cX10_issue 62 = .ok (.bipush 10, 2) := by decide +kernel
theorem dX10_issue_64 : decode cX10_issue 64 = .ok (.iload_n 1, 1) := by decide +kernel
theorem dX10_issue_65 : decode cX10_issue 65 = .ok (.imul, 1) := by decide +kernel
theorem dX10_issue_66 : decode cX10_issue 66 = .ok (.iload_n 2, 1) := by decide +kernel
theorem dX10_issue_67 : decode cX10_issue 67 = .ok (.iadd, 1) := by decide +kernel
theorem dX10_issue_68 : decode cX10_issue 68 = .ok (.iaload, 1) := by decide +kernel
theorem dX10_issue_69 : decode cX10_issue 69 = .ok (.ireturn, 1) := by decide +kernel
set_option maxRecDepth 20000 in
theorem ggX10_lend_X10_isBar : GoodIn wsX10_lend wsX10_isBar := goodIn_r _ [7, 8, 9, 6, 10] (by decide +kernel) (by decide +kernel)
set_option maxRecDepth 20000 in
theorem gX10_lend_X10_isBar : GoodIn wsX10_lend (va_wsS RX10 132 yX10_isBar wsX10_isBar) := goodIn_app (goodIn_of _ (by decide +kernel)) ggX10_lend_X10_isBar
set_option maxRecDepth 20000 in
theorem ggX10_lend_X10_isKind : GoodIn wsX10_lend wsX10_isKind := goodIn_r _ [14, 15, 8, 9, 6, 10, 26, 27, 28, 29, 30, 31, 32, 33, 34, 35, 36, 37, 38, 39, 40, 41, 42, 43, 44, 45, 46, 47, 48, 49, 50, 51, 52, 53, 54, 55, 56, 57, 58, 59] (by decide +kernel) (by decide +kernel)
set_option maxRecDepth 20000 in
theorem gX10_lend_X10_isKind : GoodIn wsX10_lend (wsV RX10 107 RX10 yX10_isKind wsX10_isKind) := goodIn_app (goodIn_of _ (by decide +kernel)) ggX10_lend_X10_isKind
set_option maxRecDepth 20000 in
theorem ggX10_lend_X10_in : GoodIn wsX10_lend wsX10_in := goodIn_r _ [10] (by decide +kernel) (by decide +kernel)
set_option maxRecDepth 20000 in
theorem gX10_lend_X10_in : GoodIn wsX10_lend (va_wsS RX10 96 yX10_in wsX10_in) := goodIn_app (goodIn_of _ (by decide +kernel)) ggX10_lend_X10_in
set_option maxRecDepth 20000 in
theorem ggX10_lend_X10_lends : GoodIn wsX10_lend wsX10_lends := goodIn_r _ [19, 2, 26, 27, 28, 29, 30, 31, 32, 33, 34, 35, 36, 37, 38, 39, 40, 41, 42, 43, 44, 45, 46, 47, 48, 49, 50, 51, 52, 53, 54, 55, 56, 57, 58, 59] (by decide +kernel) (by decide +kernel)
set_option maxRecDepth 20000 in
theorem gX10_lend_X10_lends : GoodIn wsX10_lend (wsV RX10 141 RX10 yX10_lends wsX10_lends) := goodIn_app (goodIn_of _ (by decide +kernel)) ggX10_lend_X10_lends
set_option maxRecDepth 20000 in
theorem ggX10_lend_X10_keeps : GoodIn wsX10_lend wsX10_keeps := goodIn_r _ [23, 24, 25, 26, 27, 28, 29, 30, 31, 32, 33, 34, 35, 36, 37, 38, 39, 40, 41, 42, 43, 44, 45, 46, 47, 48, 49, 50, 51, 52, 53, 54, 55, 56, 57, 58, 59] (by decide +kernel) (by decide +kernel)
set_option maxRecDepth 20000 in
theorem gX10_lend_X10_keeps : GoodIn wsX10_lend (wsV RX10 128 RX10 yX10_keeps wsX10_keeps) := goodIn_app (goodIn_of _ (by decide +kernel)) ggX10_lend_X10_keeps
theorem dX10_lend_0 : decode cX10_lend 0 = .ok (.iload_n 1, 1) := by decide +kernel
theorem dX10_lend_1 : decode cX10_lend 1 = .ok (.invokestatic 132, 3) := by decide +kernel
theorem dX10_lend_4 : decode cX10_lend 4 = .ok (.ifCond .eq 22, 3) := by decide +kernel
theorem dX10_lend_7 : decode cX10_lend 7 = .ok (.aload_n 0, 1) := by decide +kernel
theorem dX10_lend_8 : decode cX10_lend 8 = .ok (.iload_n 2, 1) := by decide +kernel
theorem dX10_lend_9 : decode cX10_lend 9 = .ok (.invokevirtual 107, 3) := by decide +kernel
theorem dX10_lend_12 : decode cX10_lend 12 = .ok (.ifCond .eq 14, 3) := by decide +kernel
theorem dX10_lend_15 : decode cX10_lend 15 = .ok (.iload_n 3, 1) := by decide +kernel
theorem dX10_lend_16 : decode cX10_lend 16 = .ok (.iconst 1, 1) := by decide +kernel
theorem dX10_lend_17 : decode cX10_lend 17 = .ok (.sipush 10000, 3) := by decide +kernel
theorem dX10_lend_20 : decode cX10_lend 20 = .ok (.invokestatic 96, 3) := by decide +kernel
theorem dX10_lend_23 : decode cX10_lend 23 = .ok (.ifCond .ne 6, 3) := by decide +kernel
theorem dX10_lend_26 : decode cX10_lend 26 = .ok (.ldc 135, 2) := by decide +kernel
theorem dX10_lend_28 : decode cX10_lend 28 = .ok (.ireturn, 1) := by decide +kernel
theorem dX10_lend_29 : decode cX10_lend 29 = .ok (.aload_n 0, 1) := by decide +kernel
theorem dX10_lend_30 : decode cX10_lend 30 = .ok (.getfield 35, 3) := by decide +kernel
theorem dX10_lend_33 : decode cX10_lend 33 = .ok (.bipush 10, 2) := by decide +kernel
theorem dX10_lend_35 : decode cX10_lend 35 = .ok (.iload_n 1, 1) := by decide +kernel
theorem dX10_lend_36 : decode cX10_lend 36 = .ok (.imul, 1) := by decide +kernel
theorem dX10_lend_37 : decode cX10_lend 37 = .ok (.iload_n 2, 1) := by decide +kernel
theorem dX10_lend_38 : decode cX10_lend 38 = .ok (.iadd, 1) := by decide +kernel
theorem dX10_lend_39 : decode cX10_lend 39 = .ok (.iaload, 1) := by decide +kernel
theorem dX10_lend_40 : decode cX10_lend 40 = .ok (.iload_n 3, 1) := by decide +kernel
theorem dX10_lend_41 : decode cX10_lend 41 = .ok (.if_icmp .ge 6, 3) := by decide +kernel
theorem dX10_lend_44 : decode cX10_lend 44 = .ok (.ldc 136, 2) := by decide +kernel
theorem dX10_lend_46 : decode cX10_lend 46 = .ok (.ireturn, 1) := by decide +kernel
theorem dX10_lend_47 : decode cX10_lend 47 = .ok (.aload_n 0, 1) := by decide +kernel
theorem dX10_lend_48 : decode cX10_lend 48 = .ok (.iload_n 1, 1) := by decide +kernel
theorem dX10_lend_49 : decode cX10_lend 49 = .ok (.iload_n 2, 1) := by decide +kernel
theorem dX10_lend_50 : decode cX10_lend 50 = .ok (.iload_n 3, 1) := by decide +kernel
theorem dX10_lend_51 : decode cX10_lend 51 = .ok (.invokevirtual 141, 3) := by decide +kernel
theorem dX10_lend_54 : decode cX10_lend 54 = .ok (.aload_n 0, 1) := by decide +kernel
theorem dX10_lend_55 : decode cX10_lend 55 = .ok (.iconst 2, 1) := by decide +kernel
theorem dX10_lend_56 : decode cX10_lend 56 = .ok (.iload_n 1, 1) := by decide +kernel
theorem dX10_lend_57 : decode cX10_lend 57 = .ok (.iload_n 2, 1) := by decide +kernel
theorem dX10_lend_58 : decode cX10_lend 58 = .ok (.iload_n 3, 1) := by decide +kernel
theorem dX10_lend_59 : decode cX10_lend 59 = .ok (.iconst 0, 1) := by decide +kernel
theorem dX10_lend_60 : decode cX10_lend 60 = .ok (.iconst 0, 1) := by decide +kernel
theorem dX10_lend_61 : decode cX10_lend 61 = .ok (.invokevirtual 128, 3) := by decide +kernel
theorem dX10_lend_64 : decode cX10_lend 64 = .ok (.aload_n 0, 1) := by decide +kernel
theorem dX10_lend_65 : decode cX10_lend 65 = .ok (.getfield 35, 3) := by decide +kernel
theorem dX10_lend_68 : decode cX10_lend 68 = .ok (.bipush 10, 2) := by decide +kernel
theorem dX10_lend_70 : decode cX10_lend 70 = .ok (.iconst 1, 1) := by decide +kernel
theorem dX10_lend_71 : decode cX10_lend 71 = .ok (.iload_n 1, 1) := by decide +kernel
theorem dX10_lend_72 : decode cX10_lend 72 = .ok (.isub, 1) := by decide +kernel
theorem dX10_lend_73 : decode cX10_lend 73 = .ok (.imul, 1) := by decide +kernel
theorem dX10_lend_74 : decode cX10_lend 74 = .ok (.iload_n 2, 1) := by decide +kernel
theorem dX10_lend_75 : decode cX10_lend 75 = .ok (.iadd, 1) := by decide +kernel
theorem dX10_lend_76 : decode cX10_lend 76 = .ok (.iaload, 1) := by decide +kernel
theorem dX10_lend_77 : decode cX10_lend 77 = .ok (.ireturn, 1) := by decide +kernel
set_option maxRecDepth 20000 in
theorem ggX10_sell_X10_isBar : GoodIn wsX10_sell wsX10_isBar := goodIn_r _ [5, 6, 7, 4, 8] (by decide +kernel) (by decide +kernel)
set_option maxRecDepth 20000 in
theorem gX10_sell_X10_isBar : GoodIn wsX10_sell (va_wsS RX10 132 yX10_isBar wsX10_isBar) := goodIn_app (goodIn_of _ (by decide +kernel)) ggX10_sell_X10_isBar
set_option maxRecDepth 20000 in
theorem ggX10_sell_X10_isRecipe : GoodIn wsX10_sell wsX10_isRecipe := goodIn_r _ [12, 13, 6, 7, 4, 8, 49, 50, 51, 52, 53, 54, 55, 56, 57, 58, 59, 60, 61, 62, 63, 64, 65, 66, 67, 68, 69, 70, 71, 72, 73, 74, 75, 76, 77, 78, 79, 80, 81, 82] (by decide +kernel) (by decide +kernel)
set_option maxRecDepth 20000 in
theorem gX10_sell_X10_isRecipe : GoodIn wsX10_sell (wsV RX10 103 RX10 yX10_isRecipe wsX10_isRecipe) := goodIn_app (goodIn_of _ (by decide +kernel)) ggX10_sell_X10_isRecipe
set_option maxRecDepth 20000 in
theorem ggX10_sell_X10_in : GoodIn wsX10_sell wsX10_in := goodIn_r _ [8] (by decide +kernel) (by decide +kernel)
set_option maxRecDepth 20000 in
theorem gX10_sell_X10_in : GoodIn wsX10_sell (va_wsS RX10 96 yX10_in wsX10_in) := goodIn_app (goodIn_of _ (by decide +kernel)) ggX10_sell_X10_in
set_option maxRecDepth 20000 in
theorem ggX10_sell_X10_priceOf : GoodIn wsX10_sell wsX10_priceOf := goodIn_r _ [17, 18, 19, 20, 21, 22, 23, 24, 4, 25, 26, 27, 28, 6, 7, 8, 49, 50, 51, 52, 53, 54, 55, 56, 57, 58, 59, 60, 61, 62, 63, 64, 65, 66, 67, 68, 69, 70, 71, 72, 73, 74, 75, 76, 77, 78, 79, 80, 81, 82] (by decide +kernel) (by decide +kernel)
set_option maxRecDepth 20000 in
theorem gX10_sell_X10_priceOf : GoodIn wsX10_sell (wsV RX10 144 RX10 yX10_priceOf wsX10_priceOf) := goodIn_app (goodIn_of _ (by decide +kernel)) ggX10_sell_X10_priceOf
set_option maxRecDepth 20000 in
theorem ggX10_sell_X10_sells : GoodIn wsX10_sell wsX10_sells := goodIn_r _ [32, 33, 34, 35, 36, 37, 38, 39, 40, 41, 4, 42, 49, 50, 51, 52, 53, 54, 55, 56, 57, 58, 59, 60, 61, 62, 63, 64, 65, 66, 67, 68, 69, 70, 71, 72, 73, 74, 75, 76, 77, 78, 79, 80, 81, 82] (by decide +kernel) (by decide +kernel)
set_option maxRecDepth 20000 in
theorem gX10_sell_X10_sells : GoodIn wsX10_sell (wsV RX10 147 RX10 yX10_sells wsX10_sells) := goodIn_app (goodIn_of _ (by decide +kernel)) ggX10_sell_X10_sells
set_option maxRecDepth 20000 in
theorem ggX10_sell_X10_keeps : GoodIn wsX10_sell wsX10_keeps := goodIn_r _ [46, 47, 48, 49, 50, 51, 52, 53, 54, 55, 56, 57, 58, 59, 60, 61, 62, 63, 64, 65, 66, 67, 68, 69, 70, 71, 72, 73, 74, 75, 76, 77, 78, 79, 80, 81, 82] (by decide +kernel) (by decide +kernel)
set_option maxRecDepth 20000 in
theorem gX10_sell_X10_keeps : GoodIn wsX10_sell (wsV RX10 128 RX10 yX10_keeps wsX10_keeps) := goodIn_app (goodIn_of _ (by decide +kernel)) ggX10_sell_X10_keeps
theorem dX10_sell_0 : decode cX10_sell 0 = .ok (.iload_n 1, 1) := by decide +kernel
theorem dX10_sell_1 : decode cX10_sell 1 = .ok (.invokestatic 132, 3) := by decide +kernel
theorem dX10_sell_4 : decode cX10_sell 4 = .ok (.ifCond .eq 44, 3) := by decide +kernel
theorem dX10_sell_7 : decode cX10_sell 7 = .ok (.aload_n 0, 1) := by decide +kernel
theorem dX10_sell_8 : decode cX10_sell 8 = .ok (.iload_n 2, 1) := by decide +kernel
theorem dX10_sell_9 : decode cX10_sell 9 = .ok (.invokevirtual 103, 3) := by decide +kernel
theorem dX10_sell_12 : decode cX10_sell 12 = .ok (.ifCond .eq 36, 3) := by decide +kernel
theorem dX10_sell_15 : decode cX10_sell 15 = .ok (.iload_n 3, 1) := by decide +kernel
theorem dX10_sell_16 : decode cX10_sell 16 = .ok (.iconst 1, 1) := by decide +kernel
theorem dX10_sell_17 : decode cX10_sell 17 = .ok (.bipush 100, 2) := by decide +kernel
theorem dX10_sell_19 : decode cX10_sell 19 = .ok (.invokestatic 96, 3) := by decide +kernel
theorem dX10_sell_22 : decode cX10_sell 22 = .ok (.ifCond .eq 26, 3) := by decide +kernel
theorem dX10_sell_25 : decode cX10_sell 25 = .ok (.iload 4, 2) := by decide +kernel
theorem dX10_sell_27 : decode cX10_sell 27 = .ok (.iconst 0, 1) := by decide +kernel
theorem dX10_sell_28 : decode cX10_sell 28 = .ok (.bipush 6, 2) := by decide +kernel
theorem dX10_sell_30 : decode cX10_sell 30 = .ok (.invokestatic 96, 3) := by decide +kernel
theorem dX10_sell_33 : decode cX10_sell 33 = .ok (.ifCond .eq 15, 3) := by decide +kernel
theorem dX10_sell_36 : decode cX10_sell 36 = .ok (.iload 5, 2) := by decide +kernel
theorem dX10_sell_38 : decode cX10_sell 38 = .ok (.iconst 0, 1) := by decide +kernel
theorem dX10_sell_39 : decode cX10_sell 39 = .ok (.sipush 1439, 3) := by decide +kernel
theorem dX10_sell_42 : decode cX10_sell 42 = .ok (.invokestatic 96, 3) := by decide +kernel
theorem dX10_sell_45 : decode cX10_sell 45 = .ok (.ifCond .ne 5, 3) := by decide +kernel
theorem dX10_sell_48 : decode cX10_sell 48 = .ok (.iconst (-1), 1) := by decide +kernel
theorem dX10_sell_49 : decode cX10_sell 49 = .ok (.ireturn, 1) := by decide +kernel
theorem dX10_sell_50 : decode cX10_sell 50 = .ok (.iload_n 3, 1) := by decide +kernel
theorem dX10_sell_51 : decode cX10_sell 51 = .ok (.aload_n 0, 1) := by decide +kernel
theorem dX10_sell_52 : decode cX10_sell 52 = .ok (.iload_n 2, 1) := by decide +kernel
theorem dX10_sell_53 : decode cX10_sell 53 = .ok (.iload 4, 2) := by decide +kernel
theorem dX10_sell_55 : decode cX10_sell 55 = .ok (.iload 5, 2) := by decide +kernel
theorem dX10_sell_57 : decode cX10_sell 57 = .ok (.invokevirtual 144, 3) := by decide +kernel
theorem dX10_sell_60 : decode cX10_sell 60 = .ok (.imul, 1) := by decide +kernel
theorem dX10_sell_61 : decode cX10_sell 61 = .ok (.istore 6, 2) := by decide +kernel
theorem dX10_sell_63 : decode cX10_sell 63 = .ok (.aload_n 0, 1) := by decide +kernel
theorem dX10_sell_64 : decode cX10_sell 64 = .ok (.iload_n 1, 1) := by decide +kernel
theorem dX10_sell_65 : decode cX10_sell 65 = .ok (.iload_n 2, 1) := by decide +kernel
theorem dX10_sell_66 : decode cX10_sell 66 = .ok (.iload_n 3, 1) := by decide +kernel
theorem dX10_sell_67 : decode cX10_sell 67 = .ok (.iload 6, 2) := by decide +kernel
theorem dX10_sell_69 : decode cX10_sell 69 = .ok (.invokevirtual 147, 3) := by decide +kernel
theorem dX10_sell_72 : decode cX10_sell 72 = .ok (.aload_n 0, 1) := by decide +kernel
theorem dX10_sell_73 : decode cX10_sell 73 = .ok (.getfield 25, 3) := by decide +kernel
theorem dX10_sell_76 : decode cX10_sell 76 = .ok (.iload_n 2, 1) := by decide +kernel
theorem dX10_sell_77 : decode cX10_sell 77 = .ok (.iconst 1, 1) := by decide +kernel
theorem dX10_sell_78 : decode cX10_sell 78 = .ok (.bastore, 1) := by decide +kernel
theorem dX10_sell_79 : decode cX10_sell 79 = .ok (.aload_n 0, 1) := by decide +kernel
theorem dX10_sell_80 : decode cX10_sell 80 = .ok (.iconst 3, 1) := by decide +kernel
theorem dX10_sell_81 : decode cX10_sell 81 = .ok (.iload_n 1, 1) := by decide +kernel
theorem dX10_sell_82 : decode cX10_sell 82 = .ok (.iload_n 2, 1) := by decide +kernel
theorem dX10_sell_83 : decode cX10_sell 83 = .ok (.iload_n 3, 1) := by decide +kernel
theorem dX10_sell_84 : decode cX10_sell 84 = .ok (.iload 6, 2) := by decide +kernel
theorem dX10_sell_86 : decode cX10_sell 86 = .ok (.iconst 0, 1) := by decide +kernel
theorem dX10_sell_87 : decode cX10_sell 87 = .ok (.invokevirtual 128, 3) := by decide +kernel
theorem dX10_sell_90 : decode cX10_sell 90 = .ok (.iload 6, 2) := by decide +kernel
theorem dX10_sell_92 : decode cX10_sell 92 = .ok (.ireturn, 1) := by decide +kernel
set_option maxRecDepth 20000 in
theorem ggX10_lose_X10_isBar : GoodIn wsX10_lose wsX10_isBar := goodIn_r _ [6, 7, 8, 5, 9] (by decide +kernel) (by decide +kernel)
set_option maxRecDepth 20000 in
theorem gX10_lose_X10_isBar : GoodIn wsX10_lose (va_wsS RX10 132 yX10_isBar wsX10_isBar) := goodIn_app (goodIn_of _ (by decide +kernel)) ggX10_lose_X10_isBar
set_option maxRecDepth 20000 in
theorem ggX10_lose_X10_isKind : GoodIn wsX10_lose wsX10_isKind := goodIn_r _ [13, 14, 7, 8, 5, 9, 26, 27, 28, 29, 30, 31, 32, 33, 34, 35, 36, 37, 38, 39, 40, 41, 42, 43, 44, 45, 46, 47, 48, 49, 50, 51, 52, 53, 54, 55, 56, 57, 58, 59] (by decide +kernel) (by decide +kernel)
set_option maxRecDepth 20000 in
theorem gX10_lose_X10_isKind : GoodIn wsX10_lose (wsV RX10 107 RX10 yX10_isKind wsX10_isKind) := goodIn_app (goodIn_of _ (by decide +kernel)) ggX10_lose_X10_isKind
set_option maxRecDepth 20000 in
theorem ggX10_lose_X10_in : GoodIn wsX10_lose wsX10_in := goodIn_r _ [9] (by decide +kernel) (by decide +kernel)
set_option maxRecDepth 20000 in
theorem gX10_lose_X10_in : GoodIn wsX10_lose (va_wsS RX10 96 yX10_in wsX10_in) := goodIn_app (goodIn_of _ (by decide +kernel)) ggX10_lose_X10_in
set_option maxRecDepth 20000 in
theorem ggX10_lose_X10_loses : GoodIn wsX10_lose wsX10_loses := goodIn_r _ [18, 2, 19, 26, 27, 28, 29, 30, 31, 32, 33, 34, 35, 36, 37, 38, 39, 40, 41, 42, 43, 44, 45, 46, 47, 48, 49, 50, 51, 52, 53, 54, 55, 56, 57, 58, 59] (by decide +kernel) (by decide +kernel)
set_option maxRecDepth 20000 in
theorem gX10_lose_X10_loses : GoodIn wsX10_lose (wsV RX10 151 RX10 yX10_loses wsX10_loses) := goodIn_app (goodIn_of _ (by decide +kernel)) ggX10_lose_X10_loses
set_option maxRecDepth 20000 in
theorem ggX10_lose_X10_keeps : GoodIn wsX10_lose wsX10_keeps := goodIn_r _ [23, 24, 25, 26, 27, 28, 29, 30, 31, 32, 33, 34, 35, 36, 37, 38, 39, 40, 41, 42, 43, 44, 45, 46, 47, 48, 49, 50, 51, 52, 53, 54, 55, 56, 57, 58, 59] (by decide +kernel) (by decide +kernel)
set_option maxRecDepth 20000 in
theorem gX10_lose_X10_keeps : GoodIn wsX10_lose (wsV RX10 128 RX10 yX10_keeps wsX10_keeps) := goodIn_app (goodIn_of _ (by decide +kernel)) ggX10_lose_X10_keeps
theorem dX10_lose_0 : decode cX10_lose 0 = .ok (.iload_n 1, 1) := by decide +kernel
theorem dX10_lose_1 : decode cX10_lose 1 = .ok (.invokestatic 132, 3) := by decide +kernel
theorem dX10_lose_4 : decode cX10_lose 4 = .ok (.ifCond .eq 32, 3) := by decide +kernel
theorem dX10_lose_7 : decode cX10_lose 7 = .ok (.aload_n 0, 1) := by decide +kernel
theorem dX10_lose_8 : decode cX10_lose 8 = .ok (.iload_n 2, 1) := by decide +kernel
theorem dX10_lose_9 : decode cX10_lose 9 = .ok (.invokevirtual 107, 3) := by decide +kernel
theorem dX10_lose_12 : decode cX10_lose 12 = .ok (.ifCond .eq 24, 3) := by decide +kernel
theorem dX10_lose_15 : decode cX10_lose 15 = .ok (.iload_n 3, 1) := by decide +kernel
theorem dX10_lose_16 : decode cX10_lose 16 = .ok (.iconst 0, 1) := by decide +kernel
theorem dX10_lose_17 : decode cX10_lose 17 = .ok (.iconst 1, 1) := by decide +kernel
theorem dX10_lose_18 : decode cX10_lose 18 = .ok (.invokestatic 96, 3) := by decide +kernel
theorem dX10_lose_21 : decode cX10_lose 21 = .ok (.ifCond .eq 15, 3) := by decide +kernel
theorem dX10_lose_24 : decode cX10_lose 24 = .ok (.iload 4, 2) := by decide +kernel
theorem dX10_lose_26 : decode cX10_lose 26 = .ok (.iconst 1, 1) := by decide +kernel
theorem dX10_lose_27 : decode cX10_lose 27 = .ok (.sipush 10000, 3) := by decide +kernel
theorem dX10_lose_30 : decode cX10_lose 30 = .ok (.invokestatic 96, 3) := by decide +kernel
theorem dX10_lose_33 : decode cX10_lose 33 = .ok (.ifCond .ne 6, 3) := by decide +kernel
theorem dX10_lose_36 : decode cX10_lose 36 = .ok (.ldc 135, 2) := by decide +kernel
theorem dX10_lose_38 : decode cX10_lose 38 = .ok (.ireturn, 1) := by decide +kernel
theorem dX10_lose_39 : decode cX10_lose 39 = .ok (.aload_n 0, 1) := by decide +kernel
theorem dX10_lose_40 : decode cX10_lose 40 = .ok (.iload_n 1, 1) := by decide +kernel
theorem dX10_lose_41 : decode cX10_lose 41 = .ok (.iload_n 2, 1) := by decide +kernel
theorem dX10_lose_42 : decode cX10_lose 42 = .ok (.iload_n 3, 1) := by decide +kernel
theorem dX10_lose_43 : decode cX10_lose 43 = .ok (.iload 4, 2) := by decide +kernel
theorem dX10_lose_45 : decode cX10_lose 45 = .ok (.invokevirtual 151, 3) := by decide +kernel
theorem dX10_lose_48 : decode cX10_lose 48 = .ok (.aload_n 0, 1) := by decide +kernel
theorem dX10_lose_49 : decode cX10_lose 49 = .ok (.iconst 4, 1) := by decide +kernel
theorem dX10_lose_50 : decode cX10_lose 50 = .ok (.iload_n 3, 1) := by decide +kernel
theorem dX10_lose_51 : decode cX10_lose 51 = .ok (.iadd, 1) := by decide +kernel
theorem dX10_lose_52 : decode cX10_lose 52 = .ok (.iload_n 1, 1) := by decide +kernel
theorem dX10_lose_53 : decode cX10_lose 53 = .ok (.iload_n 2, 1) := by decide +kernel
theorem dX10_lose_54 : decode cX10_lose 54 = .ok (.iload 4, 2) := by decide +kernel
theorem dX10_lose_56 : decode cX10_lose 56 = .ok (.iconst 0, 1) := by decide +kernel
theorem dX10_lose_57 : decode cX10_lose 57 = .ok (.iconst 0, 1) := by decide +kernel
theorem dX10_lose_58 : decode cX10_lose 58 = .ok (.invokevirtual 128, 3) := by decide +kernel
theorem dX10_lose_61 : decode cX10_lose 61 = .ok (.aload_n 0, 1) := by decide +kernel
theorem dX10_lose_62 : decode cX10_lose 62 = .ok (.getfield 35, 3) := by decide +kernel
theorem dX10_lose_65 : decode cX10_lose 65 = .ok (.bipush 10, 2) := by decide +kernel
theorem dX10_lose_67 : decode cX10_lose 67 = .ok (.iload_n 1, 1) := by decide +kernel
theorem dX10_lose_68 : decode cX10_lose 68 = .ok (.imul, 1) := by decide +kernel
theorem dX10_lose_69 : decode cX10_lose 69 = .ok (.iload_n 2, 1) := by decide +kernel
theorem dX10_lose_70 : decode cX10_lose 70 = .ok (.iadd, 1) := by decide +kernel
theorem dX10_lose_71 : decode cX10_lose 71 = .ok (.iaload, 1) := by decide +kernel
theorem dX10_lose_72 : decode cX10_lose 72 = .ok (.ireturn, 1) := by decide +kernel
set_option maxRecDepth 20000 in
theorem ggX10_weigh_X10_isBar : GoodIn wsX10_weigh wsX10_isBar := goodIn_r _ [15, 16, 17, 14, 18] (by decide +kernel) (by decide +kernel)
set_option maxRecDepth 20000 in
theorem gX10_weigh_X10_isBar : GoodIn wsX10_weigh (va_wsS RX10 132 yX10_isBar wsX10_isBar) := goodIn_app (goodIn_of _ (by decide +kernel)) ggX10_weigh_X10_isBar
set_option maxRecDepth 20000 in
theorem ggX10_weigh_X10_isKind : GoodIn wsX10_weigh wsX10_isKind := goodIn_r _ [22, 23, 16, 17, 14, 18, 39, 40, 41, 42, 43, 44, 45, 46, 47, 48, 49, 50, 51, 52, 53, 54, 55, 56, 57, 58, 59, 60, 61, 62, 63, 64, 65, 66, 67, 68, 69, 70, 71, 72] (by decide +kernel) (by decide +kernel)
set_option maxRecDepth 20000 in
theorem gX10_weigh_X10_isKind : GoodIn wsX10_weigh (wsV RX10 107 RX10 yX10_isKind wsX10_isKind) := goodIn_app (goodIn_of _ (by decide +kernel)) ggX10_weigh_X10_isKind
set_option maxRecDepth 20000 in
theorem ggX10_weigh_X10_in : GoodIn wsX10_weigh wsX10_in := goodIn_r _ [18] (by decide +kernel) (by decide +kernel)
set_option maxRecDepth 20000 in
theorem gX10_weigh_X10_in : GoodIn wsX10_weigh (va_wsS RX10 96 yX10_in wsX10_in) := goodIn_app (goodIn_of _ (by decide +kernel)) ggX10_weigh_X10_in
set_option maxRecDepth 20000 in
theorem ggX10_weigh_X10_at : GoodIn wsX10_weigh wsX10_at := goodIn_r _ [26] (by decide +kernel) (by decide +kernel)
set_option maxRecDepth 20000 in
theorem gX10_weigh_X10_at : GoodIn wsX10_weigh (va_wsS RX10 120 yX10_at wsX10_at) := goodIn_app (goodIn_of _ (by decide +kernel)) ggX10_weigh_X10_at
set_option maxRecDepth 20000 in
theorem ggX10_weigh_X10_spanNow : GoodIn wsX10_weigh wsX10_spanNow := goodIn_r _ [30, 31, 7, 32, 39, 40, 41, 42, 43, 44, 45, 46, 47, 48, 49, 50, 51, 52, 53, 54, 55, 56, 57, 58, 59, 60, 61, 62, 63, 64, 65, 66, 67, 68, 69, 70, 71, 72] (by decide +kernel) (by decide +kernel)
set_option maxRecDepth 20000 in
theorem gX10_weigh_X10_spanNow : GoodIn wsX10_weigh (wsV RX10 154 RX10 yX10_spanNow wsX10_spanNow) := goodIn_app (goodIn_of _ (by decide +kernel)) ggX10_weigh_X10_spanNow
set_option maxRecDepth 20000 in
theorem ggX10_weigh_X10_keeps : GoodIn wsX10_weigh wsX10_keeps := goodIn_r _ [36, 37, 38, 39, 40, 41, 42, 43, 44, 45, 46, 47, 48, 49, 50, 51, 52, 53, 54, 55, 56, 57, 58, 59, 60, 61, 62, 63, 64, 65, 66, 67, 68, 69, 70, 71, 72] (by decide +kernel) (by decide +kernel)
set_option maxRecDepth 20000 in
theorem gX10_weigh_X10_keeps : GoodIn wsX10_weigh (wsV RX10 128 RX10 yX10_keeps wsX10_keeps) := goodIn_app (goodIn_of _ (by decide +kernel)) ggX10_weigh_X10_keeps
theorem dX10_weigh_0 : decode cX10_weigh 0 = .ok (.iload_n 1, 1) := by decide +kernel
theorem dX10_weigh_1 : decode cX10_weigh 1 = .ok (.invokestatic 132, 3) := by decide +kernel
theorem dX10_weigh_4 : decode cX10_weigh 4 = .ok (.ifCond .eq 33, 3) := by decide +kernel
theorem dX10_weigh_7 : decode cX10_weigh 7 = .ok (.aload_n 0, 1) := by decide +kernel
theorem dX10_weigh_8 : decode cX10_weigh 8 = .ok (.iload_n 2, 1) := by decide +kernel
theorem dX10_weigh_9 : decode cX10_weigh 9 = .ok (.invokevirtual 107, 3) := by decide +kernel
theorem dX10_weigh_12 : decode cX10_weigh 12 = .ok (.ifCond .eq 25, 3) := by decide +kernel
theorem dX10_weigh_15 : decode cX10_weigh 15 = .ok (.iload_n 3, 1) := by decide +kernel
theorem dX10_weigh_16 : decode cX10_weigh 16 = .ok (.iconst 0, 1) := by decide +kernel
theorem dX10_weigh_17 : decode cX10_weigh 17 = .ok (.bipush 50, 2) := by decide +kernel
theorem dX10_weigh_19 : decode cX10_weigh 19 = .ok (.invokestatic 96, 3) := by decide +kernel
theorem dX10_weigh_22 : decode cX10_weigh 22 = .ok (.ifCond .eq 15, 3) := by decide +kernel
theorem dX10_weigh_25 : decode cX10_weigh 25 = .ok (.iload 4, 2) := by decide +kernel
theorem dX10_weigh_27 : decode cX10_weigh 27 = .ok (.iconst 0, 1) := by decide +kernel
theorem dX10_weigh_28 : decode cX10_weigh 28 = .ok (.sipush 5000, 3) := by decide +kernel
theorem dX10_weigh_31 : decode cX10_weigh 31 = .ok (.invokestatic 96, 3) := by decide +kernel
theorem dX10_weigh_34 : decode cX10_weigh 34 = .ok (.ifCond .ne 6, 3) := by decide +kernel
theorem dX10_weigh_37 : decode cX10_weigh 37 = .ok (.ldc 135, 2) := by decide +kernel
theorem dX10_weigh_39 : decode cX10_weigh 39 = .ok (.ireturn, 1) := by decide +kernel
theorem dX10_weigh_40 : decode cX10_weigh 40 = .ok (.aload_n 0, 1) := by decide +kernel
theorem dX10_weigh_41 : decode cX10_weigh 41 = .ok (.getfield 117, 3) := by decide +kernel
theorem dX10_weigh_44 : decode cX10_weigh 44 = .ok (.iload_n 1, 1) := by decide +kernel
theorem dX10_weigh_45 : decode cX10_weigh 45 = .ok (.iload_n 2, 1) := by decide +kernel
theorem dX10_weigh_46 : decode cX10_weigh 46 = .ok (.invokestatic 120, 3) := by decide +kernel
theorem dX10_weigh_49 : decode cX10_weigh 49 = .ok (.istore 5, 2) := by decide +kernel
theorem dX10_weigh_51 : decode cX10_weigh 51 = .ok (.aload_n 0, 1) := by decide +kernel
theorem dX10_weigh_52 : decode cX10_weigh 52 = .ok (.getfield 41, 3) := by decide +kernel
theorem dX10_weigh_55 : decode cX10_weigh 55 = .ok (.iload 5, 2) := by decide +kernel
theorem dX10_weigh_57 : decode cX10_weigh 57 = .ok (.baload, 1) := by decide +kernel
theorem dX10_weigh_58 : decode cX10_weigh 58 = .ok (.ifCond .eq 6, 3) := by decide +kernel
theorem dX10_weigh_61 : decode cX10_weigh 61 = .ok (.ldc 136, 2) := by decide +kernel
theorem dX10_weigh_63 : decode cX10_weigh 63 = .ok (.ireturn, 1) := by decide +kernel
theorem dX10_weigh_64 : decode cX10_weigh 64 = .ok (.iload 4, 2) := by decide +kernel
theorem dX10_weigh_66 : decode cX10_weigh 66 = .ok (.aload_n 0, 1) := by decide +kernel
theorem dX10_weigh_67 : decode cX10_weigh 67 = .ok (.getfield 7, 3) := by decide +kernel
theorem dX10_weigh_70 : decode cX10_weigh 70 = .ok (.iload_n 2, 1) := by decide +kernel
theorem dX10_weigh_71 : decode cX10_weigh 71 = .ok (.iaload, 1) := by decide +kernel
theorem dX10_weigh_72 : decode cX10_weigh 72 = .ok (.if_icmp .ge 7, 3) := by decide +kernel
theorem dX10_weigh_75 : decode cX10_weigh 75 = .ok (.iconst 0, 1) := by decide +kernel
theorem dX10_weigh_76 : decode cX10_weigh 76 = .ok (.goto 12, 3) := by decide +kernel
theorem dX10_weigh_79 : decode cX10_weigh 79 = .ok (.iload 4, 2) := by decide +kernel
theorem dX10_weigh_81 : decode cX10_weigh 81 = .ok (.aload_n 0, 1) := by decide +kernel
theorem dX10_weigh_82 : decode cX10_weigh 82 = .ok (.getfield 7, 3) := by decide +kernel
theorem dX10_weigh_85 : decode cX10_weigh 85 = .ok (.iload_n 2, 1) := by decide +kernel
theorem dX10_weigh_86 : decode cX10_weigh 86 = .ok (.iaload, 1) := by decide +kernel
theorem dX10_weigh_87 : decode cX10_weigh 87 = .ok (.isub, 1) := by decide +kernel
theorem dX10_weigh_88 : decode cX10_weigh 88 = .ok (.istore 6, 2) := by decide +kernel
theorem dX10_weigh_90 : decode cX10_weigh 90 = .ok (.aload_n 0, 1) := by decide +kernel
theorem dX10_weigh_91 : decode cX10_weigh 91 = .ok (.getfield 13, 3) := by decide +kernel
theorem dX10_weigh_94 : decode cX10_weigh 94 = .ok (.iload_n 2, 1) := by decide +kernel
theorem dX10_weigh_95 : decode cX10_weigh 95 = .ok (.iaload, 1) := by decide +kernel
theorem dX10_weigh_96 : decode cX10_weigh 96 = .ok (.iload_n 3, 1) := by decide +kernel
theorem dX10_weigh_97 : decode cX10_weigh 97 = .ok (.imul, 1) := by decide +kernel
theorem dX10_weigh_98 : decode cX10_weigh 98 = .ok (.bipush 100, 2) := by decide +kernel
theorem dX10_weigh_100 : decode cX10_weigh 100 = .ok (.iload 6, 2) := by decide +kernel
theorem dX10_weigh_102 : decode cX10_weigh 102 = .ok (.imul, 1) := by decide +kernel
theorem dX10_weigh_103 : decode cX10_weigh 103 = .ok (.aload_n 0, 1) := by decide +kernel
theorem dX10_weigh_104 : decode cX10_weigh 104 = .ok (.getfield 16, 3) := by decide +kernel
theorem dX10_weigh_107 : decode cX10_weigh 107 = .ok (.iload_n 2, 1) := by decide +kernel
theorem dX10_weigh_108 : decode cX10_weigh 108 = .ok (.iaload, 1) := by decide +kernel
theorem dX10_weigh_109 : decode cX10_weigh 109 = .ok (.idiv, 1) := by decide +kernel
theorem dX10_weigh_110 : decode cX10_weigh 110 = .ok (.iadd, 1) := by decide +kernel
theorem dX10_weigh_111 : decode cX10_weigh 111 = .ok (.istore 7, 2) := by decide +kernel
theorem dX10_weigh_113 : decode cX10_weigh 113 = .ok (.aload_n 0, 1) := by decide +kernel
theorem dX10_weigh_114 : decode cX10_weigh 114 = .ok (.getfield 35, 3) := by decide +kernel
theorem dX10_weigh_117 : decode cX10_weigh 117 = .ok (.bipush 10, 2) := by decide +kernel
theorem dX10_weigh_119 : decode cX10_weigh 119 = .ok (.iload_n 1, 1) := by decide +kernel
theorem dX10_weigh_120 : decode cX10_weigh 120 = .ok (.imul, 1) := by decide +kernel
theorem dX10_weigh_121 : decode cX10_weigh 121 = .ok (.iload_n 2, 1) := by decide +kernel
theorem dX10_weigh_122 : decode cX10_weigh 122 = .ok (.iadd, 1) := by decide +kernel
theorem dX10_weigh_123 : decode cX10_weigh 123 = .ok (.iaload, 1) := by decide +kernel
theorem dX10_weigh_124 : decode cX10_weigh 124 = .ok (.iload 7, 2) := by decide +kernel
theorem dX10_weigh_126 : decode cX10_weigh 126 = .ok (.isub, 1) := by decide +kernel
theorem dX10_weigh_127 : decode cX10_weigh 127 = .ok (.istore 8, 2) := by decide +kernel
theorem dX10_weigh_129 : decode cX10_weigh 129 = .ok (.aload_n 0, 1) := by decide +kernel
theorem dX10_weigh_130 : decode cX10_weigh 130 = .ok (.getfield 35, 3) := by decide +kernel
theorem dX10_weigh_133 : decode cX10_weigh 133 = .ok (.bipush 10, 2) := by decide +kernel
theorem dX10_weigh_135 : decode cX10_weigh 135 = .ok (.iload_n 1, 1) := by decide +kernel
theorem dX10_weigh_136 : decode cX10_weigh 136 = .ok (.imul, 1) := by decide +kernel
theorem dX10_weigh_137 : decode cX10_weigh 137 = .ok (.iload_n 2, 1) := by decide +kernel
theorem dX10_weigh_138 : decode cX10_weigh 138 = .ok (.iadd, 1) := by decide +kernel
theorem dX10_weigh_139 : decode cX10_weigh 139 = .ok (.iload 7, 2) := by decide +kernel
theorem dX10_weigh_141 : decode cX10_weigh 141 = .ok (.iastore, 1) := by decide +kernel
theorem dX10_weigh_142 : decode cX10_weigh 142 = .ok (.aload_n 0, 1) := by decide +kernel
theorem dX10_weigh_143 : decode cX10_weigh 143 = .ok (.getfield 41, 3) := by decide +kernel
theorem dX10_weigh_146 : decode cX10_weigh 146 = .ok (.iload 5, 2) := by decide +kernel
theorem dX10_weigh_148 : decode cX10_weigh 148 = .ok (.iconst 1, 1) := by decide +kernel
theorem dX10_weigh_149 : decode cX10_weigh 149 = .ok (.bastore, 1) := by decide +kernel
theorem dX10_weigh_150 : decode cX10_weigh 150 = .ok (.aload_n 0, 1) := by decide +kernel
theorem dX10_weigh_151 : decode cX10_weigh 151 = .ok (.getfield 38, 3) := by decide +kernel
theorem dX10_weigh_154 : decode cX10_weigh 154 = .ok (.iload 5, 2) := by decide +kernel
theorem dX10_weigh_156 : decode cX10_weigh 156 = .ok (.iload 8, 2) := by decide +kernel
theorem dX10_weigh_158 : decode cX10_weigh 158 = .ok (.iastore, 1) := by decide +kernel
theorem dX10_weigh_159 : decode cX10_weigh 159 = .ok (.aload_n 0, 1) := by decide +kernel
theorem dX10_weigh_160 : decode cX10_weigh 160 = .ok (.getfield 47, 3) := by decide +kernel
theorem dX10_weigh_163 : decode cX10_weigh 163 = .ok (.iload 5, 2) := by decide +kernel
theorem dX10_weigh_165 : decode cX10_weigh 165 = .ok (.aload_n 0, 1) := by decide +kernel
theorem dX10_weigh_166 : decode cX10_weigh 166 = .ok (.iload 5, 2) := by decide +kernel
theorem dX10_weigh_168 : decode cX10_weigh 168 = .ok (.invokevirtual 154, 3) := by decide +kernel
theorem dX10_weigh_171 : decode cX10_weigh 171 = .ok (.iastore, 1) := by decide +kernel
theorem dX10_weigh_172 : decode cX10_weigh 172 = .ok (.aload_n 0, 1) := by decide +kernel
theorem dX10_weigh_173 : decode cX10_weigh 173 = .ok (.getfield 53, 3) := by decide +kernel
theorem dX10_weigh_176 : decode cX10_weigh 176 = .ok (.iconst 5, 1) := by decide +kernel
theorem dX10_weigh_177 : decode cX10_weigh 177 = .ok (.iload_n 2, 1) := by decide +kernel
theorem dX10_weigh_178 : decode cX10_weigh 178 = .ok (.imul, 1) := by decide +kernel
theorem dX10_weigh_179 : decode cX10_weigh 179 = .ok (.iconst 3, 1) := by decide +kernel
theorem dX10_weigh_180 : decode cX10_weigh 180 = .ok (.iadd, 1) := by decide +kernel
theorem dX10_weigh_181 : decode cX10_weigh 181 = .ok (.dup2, 1) := by decide +kernel
theorem dX10_weigh_182 : decode cX10_weigh 182 = .ok (.iaload, 1) := by decide +kernel
theorem dX10_weigh_183 : decode cX10_weigh 183 = .ok (.iload 8, 2) := by decide +kernel
theorem dX10_weigh_185 : decode cX10_weigh 185 = .ok (.iadd, 1) := by decide +kernel
theorem dX10_weigh_186 : decode cX10_weigh 186 = .ok (.iastore, 1) := by decide +kernel
theorem dX10_weigh_187 : decode cX10_weigh 187 = .ok (.aload_n 0, 1) := by decide +kernel
theorem dX10_weigh_188 : decode cX10_weigh 188 = .ok (.bipush 6, 2) := by decide +kernel
theorem dX10_weigh_190 : decode cX10_weigh 190 = .ok (.iload_n 1, 1) := by decide +kernel
theorem dX10_weigh_191 : decode cX10_weigh 191 = .ok (.iload_n 2, 1) := by decide +kernel
theorem dX10_weigh_192 : decode cX10_weigh 192 = .ok (.iload 8, 2) := by decide +kernel
theorem dX10_weigh_194 : decode cX10_weigh 194 = .ok (.iconst 0, 1) := by decide +kernel
theorem dX10_weigh_195 : decode cX10_weigh 195 = .ok (.iconst 0, 1) := by decide +kernel
theorem dX10_weigh_196 : decode cX10_weigh 196 = .ok (.invokevirtual 128, 3) := by decide +kernel
theorem dX10_weigh_199 : decode cX10_weigh 199 = .ok (.iload 8, 2) := by decide +kernel
theorem dX10_weigh_201 : decode cX10_weigh 201 = .ok (.ireturn, 1) := by decide +kernel
set_option maxRecDepth 20000 in
theorem ggX10_undo_X10_receives : GoodIn wsX10_undo wsX10_receives := goodIn_r _ [11, 12, 4, 37, 38, 39, 40, 41, 42, 43, 44, 45, 46, 47, 48, 49, 50, 51, 52, 53, 54, 55, 56, 57, 58, 59, 60, 61, 62, 63, 64, 65, 66, 67, 68, 69, 70] (by decide +kernel) (by decide +kernel)
set_option maxRecDepth 20000 in
theorem gX10_undo_X10_receives : GoodIn wsX10_undo (wsV RX10 124 RX10 yX10_receives wsX10_receives) := goodIn_app (goodIn_of _ (by decide +kernel)) ggX10_undo_X10_receives
set_option maxRecDepth 20000 in
theorem ggX10_undo_X10_issues : GoodIn wsX10_undo wsX10_issues := goodIn_r _ [16, 12, 3, 17, 37, 38, 39, 40, 41, 42, 43, 44, 45, 46, 47, 48, 49, 50, 51, 52, 53, 54, 55, 56, 57, 58, 59, 60, 61, 62, 63, 64, 65, 66, 67, 68, 69, 70] (by decide +kernel) (by decide +kernel)
set_option maxRecDepth 20000 in
theorem gX10_undo_X10_issues : GoodIn wsX10_undo (wsV RX10 137 RX10 yX10_issues wsX10_issues) := goodIn_app (goodIn_of _ (by decide +kernel)) ggX10_undo_X10_issues
set_option maxRecDepth 20000 in
theorem ggX10_undo_X10_lends : GoodIn wsX10_undo wsX10_lends := goodIn_r _ [21, 3, 37, 38, 39, 40, 41, 42, 43, 44, 45, 46, 47, 48, 49, 50, 51, 52, 53, 54, 55, 56, 57, 58, 59, 60, 61, 62, 63, 64, 65, 66, 67, 68, 69, 70] (by decide +kernel) (by decide +kernel)
set_option maxRecDepth 20000 in
theorem gX10_undo_X10_lends : GoodIn wsX10_undo (wsV RX10 141 RX10 yX10_lends wsX10_lends) := goodIn_app (goodIn_of _ (by decide +kernel)) ggX10_undo_X10_lends
set_option maxRecDepth 20000 in
theorem ggX10_undo_X10_sells : GoodIn wsX10_undo wsX10_sells := goodIn_r _ [25, 26, 27, 3, 4, 28, 6, 29, 30, 31, 10, 32, 37, 38, 39, 40, 41, 42, 43, 44, 45, 46, 47, 48, 49, 50, 51, 52, 53, 54, 55, 56, 57, 58, 59, 60, 61, 62, 63, 64, 65, 66, 67, 68, 69, 70] (by decide +kernel) (by decide +kernel)
set_option maxRecDepth 20000 in
theorem gX10_undo_X10_sells : GoodIn wsX10_undo (wsV RX10 147 RX10 yX10_sells wsX10_sells) := goodIn_app (goodIn_of _ (by decide +kernel)) ggX10_undo_X10_sells
set_option maxRecDepth 20000 in
theorem ggX10_undo_X10_at : GoodIn wsX10_undo wsX10_at := goodIn_r _ [32] (by decide +kernel) (by decide +kernel)
set_option maxRecDepth 20000 in
theorem gX10_undo_X10_at : GoodIn wsX10_undo (va_wsS RX10 120 yX10_at wsX10_at) := goodIn_app (goodIn_of _ (by decide +kernel)) ggX10_undo_X10_at
set_option maxRecDepth 20000 in
theorem ggX10_undo_X10_loses : GoodIn wsX10_undo wsX10_loses := goodIn_r _ [36, 3, 4, 37, 38, 39, 40, 41, 42, 43, 44, 45, 46, 47, 48, 49, 50, 51, 52, 53, 54, 55, 56, 57, 58, 59, 60, 61, 62, 63, 64, 65, 66, 67, 68, 69, 70] (by decide +kernel) (by decide +kernel)
set_option maxRecDepth 20000 in
theorem gX10_undo_X10_loses : GoodIn wsX10_undo (wsV RX10 151 RX10 yX10_loses wsX10_loses) := goodIn_app (goodIn_of _ (by decide +kernel)) ggX10_undo_X10_loses
theorem dX10_undo_0 : decode cX10_undo 0 = .ok (.aload_n 0, 1) := by decide +kernel
theorem dX10_undo_1 : decode cX10_undo 1 = .ok (.getfield 114, 3) := by decide +kernel
theorem dX10_undo_4 : decode cX10_undo 4 = .ok (.ifCond .ne 6, 3) := by decide +kernel
theorem dX10_undo_7 : decode cX10_undo 7 = .ok (.bipush (-2), 2) := by decide +kernel
theorem dX10_undo_9 : decode cX10_undo 9 = .ok (.ireturn, 1) := by decide +kernel
theorem dX10_undo_10 : decode cX10_undo 10 = .ok (.aload_n 0, 1) := by decide +kernel
theorem dX10_undo_11 : decode cX10_undo 11 = .ok (.dup, 1) := by decide +kernel
theorem dX10_undo_12 : decode cX10_undo 12 = .ok (.getfield 114, 3) := by decide +kernel
theorem dX10_undo_15 : decode cX10_undo 15 = .ok (.iconst 1, 1) := by decide +kernel
theorem dX10_undo_16 : decode cX10_undo 16 = .ok (.isub, 1) := by decide +kernel
theorem dX10_undo_17 : decode cX10_undo 17 = .ok (.putfield 114, 3) := by decide +kernel
theorem dX10_undo_20 : decode cX10_undo 20 = .ok (.aload_n 0, 1) := by decide +kernel
theorem dX10_undo_21 : decode cX10_undo 21 = .ok (.getfield 59, 3) := by decide +kernel
theorem dX10_undo_24 : decode cX10_undo 24 = .ok (.bipush 6, 2) := by decide +kernel
theorem dX10_undo_26 : decode cX10_undo 26 = .ok (.aload_n 0, 1) := by decide +kernel
theorem dX10_undo_27 : decode cX10_undo 27 = .ok (.getfield 114, 3) := by decide +kernel
theorem dX10_undo_30 : decode cX10_undo 30 = .ok (.imul, 1) := by decide +kernel
theorem dX10_undo_31 : decode cX10_undo 31 = .ok (.iaload, 1) := by decide +kernel
theorem dX10_undo_32 : decode cX10_undo 32 = .ok (.istore_n 1, 1) := by decide +kernel
theorem dX10_undo_33 : decode cX10_undo 33 = .ok (.aload_n 0, 1) := by decide +kernel
theorem dX10_undo_34 : decode cX10_undo 34 = .ok (.getfield 59, 3) := by decide +kernel
theorem dX10_undo_37 : decode cX10_undo 37 = .ok (.bipush 6, 2) := by decide +kernel
theorem dX10_undo_39 : decode cX10_undo 39 = .ok (.aload_n 0, 1) := by decide +kernel
theorem dX10_undo_40 : decode cX10_undo 40 = .ok (.getfield 114, 3) := by decide +kernel
theorem dX10_undo_43 : decode cX10_undo 43 = .ok (.imul, 1) := by decide +kernel
theorem dX10_undo_44 : decode cX10_undo 44 = .ok (.iconst 1, 1) := by decide +kernel
theorem dX10_undo_45 : decode cX10_undo 45 = .ok (.iadd, 1) := by decide +kernel
theorem dX10_undo_46 : decode cX10_undo 46 = .ok (.iaload, 1) := by decide +kernel
theorem dX10_undo_47 : decode cX10_undo 47 = .ok (.istore_n 2, 1) := by decide +kernel
theorem dX10_undo_48 : decode cX10_undo 48 = .ok (.aload_n 0, 1) := by decide +kernel
theorem dX10_undo_49 : decode cX10_undo 49 = .ok (.getfield 59, 3) := by decide +kernel
theorem dX10_undo_52 : decode cX10_undo 52 = .ok (.bipush 6, 2) := by decide +kernel
theorem dX10_undo_54 : decode cX10_undo 54 = .ok (.aload_n 0, 1) := by decide +kernel
theorem dX10_undo_55 : decode cX10_undo 55 = .ok (.getfield 114, 3) := by decide +kernel
theorem dX10_undo_58 : decode cX10_undo 58 = .ok (.imul, 1) := by decide +kernel
theorem dX10_undo_59 : decode cX10_undo 59 = .ok (.iconst 2, 1) := by decide +kernel
theorem dX10_undo_60 : decode cX10_undo 60 = .ok (.iadd, 1) := by decide +kernel
theorem dX10_undo_61 : decode cX10_undo 61 = .ok (.iaload, 1) := by decide +kernel
theorem dX10_undo_62 : decode cX10_undo 62 = .ok (.istore_n 3, 1) := by decide +kernel
theorem dX10_undo_63 : decode cX10_undo 63 = .ok (.aload_n 0, 1) := by decide +kernel
theorem dX10_undo_64 : decode cX10_undo 64 = .ok (.getfield 59, 3) := by decide +kernel
theorem dX10_undo_67 : decode cX10_undo 67 = .ok (.bipush 6, 2) := by decide +kernel
theorem dX10_undo_69 : decode cX10_undo 69 = .ok (.aload_n 0, 1) := by decide +kernel
theorem dX10_undo_70 : decode cX10_undo 70 = .ok (.getfield 114, 3) := by decide +kernel
theorem dX10_undo_73 : decode cX10_undo 73 = .ok (.imul, 1) := by decide +kernel
theorem dX10_undo_74 : decode cX10_undo 74 = .ok (.iconst 3, 1) := by decide +kernel
theorem dX10_undo_75 : decode cX10_undo 75 = .ok (.iadd, 1) := by decide +kernel
theorem dX10_undo_76 : decode cX10_undo 76 = .ok (.iaload, 1) := by decide +kernel
theorem dX10_undo_77 : decode cX10_undo 77 = .ok (.istore 4, 2) := by decide +kernel
theorem dX10_undo_79 : decode cX10_undo 79 = .ok (.iload_n 1, 1) := by decide +kernel
theorem dX10_undo_80 : decode cX10_undo 80 = .ok (.ifCond .ne 14, 3) := by decide +kernel
theorem dX10_undo_83 : decode cX10_undo 83 = .ok (.aload_n 0, 1) := by decide +kernel
theorem dX10_undo_84 : decode cX10_undo 84 = .ok (.iload_n 3, 1) := by decide +kernel
theorem dX10_undo_85 : decode cX10_undo 85 = .ok (.iload 4, 2) := by decide +kernel
theorem dX10_undo_87 : decode cX10_undo 87 = .ok (.ineg, 1) := by decide +kernel
theorem dX10_undo_88 : decode cX10_undo 88 = .ok (.invokevirtual 124, 3) := by decide +kernel
theorem dX10_undo_91 : decode cX10_undo 91 = .ok (.goto 136, 3) := by decide +kernel
theorem dX10_undo_94 : decode cX10_undo 94 = .ok (.iload_n 1, 1) := by decide +kernel
theorem dX10_undo_95 : decode cX10_undo 95 = .ok (.iconst 1, 1) := by decide +kernel
theorem dX10_undo_96 : decode cX10_undo 96 = .ok (.if_icmp .ne 15, 3) := by decide +kernel
theorem dX10_undo_99 : decode cX10_undo 99 = .ok (.aload_n 0, 1) := by decide +kernel
theorem dX10_undo_100 : decode cX10_undo 100 = .ok (.iload_n 2, 1) := by decide +kernel
theorem dX10_undo_101 : decode cX10_undo 101 = .ok (.iload_n 3, 1) := by decide +kernel
theorem dX10_undo_102 : decode cX10_undo 102 = .ok (.iload 4, 2) := by decide +kernel
theorem dX10_undo_104 : decode cX10_undo 104 = .ok (.ineg, 1) := by decide +kernel
theorem dX10_undo_105 : decode cX10_undo 105 = .ok (.invokevirtual 137, 3) := by decide +kernel
theorem dX10_undo_108 : decode cX10_undo 108 = .ok (.goto 119, 3) := by decide +kernel
theorem dX10_undo_111 : decode cX10_undo 111 = .ok (.iload_n 1, 1) := by decide +kernel
theorem dX10_undo_112 : decode cX10_undo 112 = .ok (.iconst 2, 1) := by decide +kernel
theorem dX10_undo_113 : decode cX10_undo 113 = .ok (.if_icmp .ne 15, 3) := by decide +kernel
theorem dX10_undo_116 : decode cX10_undo 116 = .ok (.aload_n 0, 1) := by decide +kernel
theorem dX10_undo_117 : decode cX10_undo 117 = .ok (.iload_n 2, 1) := by decide +kernel
theorem dX10_undo_118 : decode cX10_undo 118 = .ok (.iload_n 3, 1) := by decide +kernel
theorem dX10_undo_119 : decode cX10_undo 119 = .ok (.iload 4, 2) := by decide +kernel
theorem dX10_undo_121 : decode cX10_undo 121 = .ok (.ineg, 1) := by decide +kernel
theorem dX10_undo_122 : decode cX10_undo 122 = .ok (.invokevirtual 141, 3) := by decide +kernel
theorem dX10_undo_125 : decode cX10_undo 125 = .ok (.goto 102, 3) := by decide +kernel
theorem dX10_undo_128 : decode cX10_undo 128 = .ok (.iload_n 1, 1) := by decide +kernel
theorem dX10_undo_129 : decode cX10_undo 129 = .ok (.iconst 3, 1) := by decide +kernel
theorem dX10_undo_130 : decode cX10_undo 130 = .ok (.if_icmp .ne 30, 3) := by decide +kernel
theorem dX10_undo_133 : decode cX10_undo 133 = .ok (.aload_n 0, 1) := by decide +kernel
theorem dX10_undo_134 : decode cX10_undo 134 = .ok (.iload_n 2, 1) := by decide +kernel
theorem dX10_undo_135 : decode cX10_undo 135 = .ok (.iload_n 3, 1) := by decide +kernel
theorem dX10_undo_136 : decode cX10_undo 136 = .ok (.iload 4, 2) := by decide +kernel
theorem dX10_undo_138 : decode cX10_undo 138 = .ok (.ineg, 1) := by decide +kernel
theorem dX10_undo_139 : decode cX10_undo 139 = .ok (.aload_n 0, 1) := by decide +kernel
theorem dX10_undo_140 : decode cX10_undo 140 = .ok (.getfield 59, 3) := by decide +kernel
theorem dX10_undo_143 : decode cX10_undo 143 = .ok (.bipush 6, 2) := by decide +kernel
theorem dX10_undo_145 : decode cX10_undo 145 = .ok (.aload_n 0, 1) := by decide +kernel
theorem dX10_undo_146 : decode cX10_undo 146 = .ok (.getfield 114, 3) := by decide +kernel
theorem dX10_undo_149 : decode cX10_undo 149 = .ok (.imul, 1) := by decide +kernel
theorem dX10_undo_150 : decode cX10_undo 150 = .ok (.iconst 4, 1) := by decide +kernel
theorem dX10_undo_151 : decode cX10_undo 151 = .ok (.iadd, 1) := by decide +kernel
theorem dX10_undo_152 : decode cX10_undo 152 = .ok (.iaload, 1) := by decide +kernel
theorem dX10_undo_153 : decode cX10_undo 153 = .ok (.ineg, 1) := by decide +kernel
theorem dX10_undo_154 : decode cX10_undo 154 = .ok (.invokevirtual 147, 3) := by decide +kernel
theorem dX10_undo_157 : decode cX10_undo 157 = .ok (.goto 70, 3) := by decide +kernel
theorem dX10_undo_160 : decode cX10_undo 160 = .ok (.iload_n 1, 1) := by decide +kernel
theorem dX10_undo_161 : decode cX10_undo 161 = .ok (.bipush 6, 2) := by decide +kernel
theorem dX10_undo_163 : decode cX10_undo 163 = .ok (.if_icmp .ne 52, 3) := by decide +kernel
theorem dX10_undo_166 : decode cX10_undo 166 = .ok (.aload_n 0, 1) := by decide +kernel
theorem dX10_undo_167 : decode cX10_undo 167 = .ok (.getfield 35, 3) := by decide +kernel
theorem dX10_undo_170 : decode cX10_undo 170 = .ok (.bipush 10, 2) := by decide +kernel
theorem dX10_undo_172 : decode cX10_undo 172 = .ok (.iload_n 2, 1) := by decide +kernel
theorem dX10_undo_173 : decode cX10_undo 173 = .ok (.imul, 1) := by decide +kernel
theorem dX10_undo_174 : decode cX10_undo 174 = .ok (.iload_n 3, 1) := by decide +kernel
theorem dX10_undo_175 : decode cX10_undo 175 = .ok (.iadd, 1) := by decide +kernel
theorem dX10_undo_176 : decode cX10_undo 176 = .ok (.dup2, 1) := by decide +kernel
theorem dX10_undo_177 : decode cX10_undo 177 = .ok (.iaload, 1) := by decide +kernel
theorem dX10_undo_178 : decode cX10_undo 178 = .ok (.iload 4, 2) := by decide +kernel
theorem dX10_undo_180 : decode cX10_undo 180 = .ok (.iadd, 1) := by decide +kernel
theorem dX10_undo_181 : decode cX10_undo 181 = .ok (.iastore, 1) := by decide +kernel
theorem dX10_undo_182 : decode cX10_undo 182 = .ok (.aload_n 0, 1) := by decide +kernel
theorem dX10_undo_183 : decode cX10_undo 183 = .ok (.getfield 53, 3) := by decide +kernel
theorem dX10_undo_186 : decode cX10_undo 186 = .ok (.iconst 5, 1) := by decide +kernel
theorem dX10_undo_187 : decode cX10_undo 187 = .ok (.iload_n 3, 1) := by decide +kernel
theorem dX10_undo_188 : decode cX10_undo 188 = .ok (.imul, 1) := by decide +kernel
theorem dX10_undo_189 : decode cX10_undo 189 = .ok (.iconst 3, 1) := by decide +kernel
theorem dX10_undo_190 : decode cX10_undo 190 = .ok (.iadd, 1) := by decide +kernel
theorem dX10_undo_191 : decode cX10_undo 191 = .ok (.dup2, 1) := by decide +kernel
theorem dX10_undo_192 : decode cX10_undo 192 = .ok (.iaload, 1) := by decide +kernel
theorem dX10_undo_193 : decode cX10_undo 193 = .ok (.iload 4, 2) := by decide +kernel
theorem dX10_undo_195 : decode cX10_undo 195 = .ok (.isub, 1) := by decide +kernel
theorem dX10_undo_196 : decode cX10_undo 196 = .ok (.iastore, 1) := by decide +kernel
theorem dX10_undo_197 : decode cX10_undo 197 = .ok (.aload_n 0, 1) := by decide +kernel
theorem dX10_undo_198 : decode cX10_undo 198 = .ok (.getfield 41, 3) := by decide +kernel
theorem dX10_undo_201 : decode cX10_undo 201 = .ok (.aload_n 0, 1) := by decide +kernel
theorem dX10_undo_202 : decode cX10_undo 202 = .ok (.getfield 117, 3) := by decide +kernel
theorem dX10_undo_205 : decode cX10_undo 205 = .ok (.iload_n 2, 1) := by decide +kernel
theorem dX10_undo_206 : decode cX10_undo 206 = .ok (.iload_n 3, 1) := by decide +kernel
theorem dX10_undo_207 : decode cX10_undo 207 = .ok (.invokestatic 120, 3) := by decide +kernel
theorem dX10_undo_210 : decode cX10_undo 210 = .ok (.iconst 0, 1) := by decide +kernel
theorem dX10_undo_211 : decode cX10_undo 211 = .ok (.bastore, 1) := by decide +kernel
theorem dX10_undo_212 : decode cX10_undo 212 = .ok (.goto 15, 3) := by decide +kernel
theorem dX10_undo_215 : decode cX10_undo 215 = .ok (.aload_n 0, 1) := by decide +kernel
theorem dX10_undo_216 : decode cX10_undo 216 = .ok (.iload_n 2, 1) := by decide +kernel
theorem dX10_undo_217 : decode cX10_undo 217 = .ok (.iload_n 3, 1) := by decide +kernel
theorem dX10_undo_218 : decode cX10_undo 218 = .ok (.iload_n 1, 1) := by decide +kernel
theorem dX10_undo_219 : decode cX10_undo 219 = .ok (.iconst 4, 1) := by decide +kernel
theorem dX10_undo_220 : decode cX10_undo 220 = .ok (.isub, 1) := by decide +kernel
theorem dX10_undo_221 : decode cX10_undo 221 = .ok (.iload 4, 2) := by decide +kernel
theorem dX10_undo_223 : decode cX10_undo 223 = .ok (.ineg, 1) := by decide +kernel
theorem dX10_undo_224 : decode cX10_undo 224 = .ok (.invokevirtual 151, 3) := by decide +kernel
theorem dX10_undo_227 : decode cX10_undo 227 = .ok (.iload_n 1, 1) := by decide +kernel
theorem dX10_undo_228 : decode cX10_undo 228 = .ok (.ireturn, 1) := by decide +kernel
set_option maxRecDepth 20000 in
theorem ggX10_keeper_X10_isBar : GoodIn wsX10_keeper wsX10_isBar := goodIn_r _ [6, 7, 8, 5, 9] (by decide +kernel) (by decide +kernel)
set_option maxRecDepth 20000 in
theorem gX10_keeper_X10_isBar : GoodIn wsX10_keeper (va_wsS RX10 132 yX10_isBar wsX10_isBar) := goodIn_app (goodIn_of _ (by decide +kernel)) ggX10_keeper_X10_isBar
set_option maxRecDepth 20000 in
theorem ggX10_keeper_X10_in : GoodIn wsX10_keeper wsX10_in := goodIn_r _ [9] (by decide +kernel) (by decide +kernel)
set_option maxRecDepth 20000 in
theorem gX10_keeper_X10_in : GoodIn wsX10_keeper (va_wsS RX10 96 yX10_in wsX10_in) := goodIn_app (goodIn_of _ (by decide +kernel)) ggX10_keeper_X10_in
theorem dX10_keeper_0 : decode cX10_keeper 0 = .ok (.iload_n 1, 1) := by decide +kernel
theorem dX10_keeper_1 : decode cX10_keeper 1 = .ok (.invokestatic 132, 3) := by decide +kernel
theorem dX10_keeper_4 : decode cX10_keeper 4 = .ok (.ifCond .eq 12, 3) := by decide +kernel
theorem dX10_keeper_7 : decode cX10_keeper 7 = .ok (.iload_n 2, 1) := by decide +kernel
theorem dX10_keeper_8 : decode cX10_keeper 8 = .ok (.iconst 0, 1) := by decide +kernel
theorem dX10_keeper_9 : decode cX10_keeper 9 = .ok (.iconst 2, 1) := by decide +kernel
theorem dX10_keeper_10 : decode cX10_keeper 10 = .ok (.invokestatic 96, 3) := by decide +kernel
theorem dX10_keeper_13 : decode cX10_keeper 13 = .ok (.ifCond .ne 5, 3) := by decide +kernel
theorem dX10_keeper_16 : decode cX10_keeper 16 = .ok (.iconst (-1), 1) := by decide +kernel
theorem dX10_keeper_17 : decode cX10_keeper 17 = .ok (.ireturn, 1) := by decide +kernel
theorem dX10_keeper_18 : decode cX10_keeper 18 = .ok (.aload_n 0, 1) := by decide +kernel
theorem dX10_keeper_19 : decode cX10_keeper 19 = .ok (.getfield 50, 3) := by decide +kernel
theorem dX10_keeper_22 : decode cX10_keeper 22 = .ok (.iconst 2, 1) := by decide +kernel
theorem dX10_keeper_23 : decode cX10_keeper 23 = .ok (.aload_n 0, 1) := by decide +kernel
theorem dX10_keeper_24 : decode cX10_keeper 24 = .ok (.getfield 117, 3) := by decide +kernel
theorem dX10_keeper_27 : decode cX10_keeper 27 = .ok (.imul, 1) := by decide +kernel
theorem dX10_keeper_28 : decode cX10_keeper 28 = .ok (.iload_n 1, 1) := by decide +kernel
theorem dX10_keeper_29 : decode cX10_keeper 29 = .ok (.iadd, 1) := by decide +kernel
theorem dX10_keeper_30 : decode cX10_keeper 30 = .ok (.iaload, 1) := by decide +kernel
theorem dX10_keeper_31 : decode cX10_keeper 31 = .ok (.istore_n 3, 1) := by decide +kernel
theorem dX10_keeper_32 : decode cX10_keeper 32 = .ok (.aload_n 0, 1) := by decide +kernel
theorem dX10_keeper_33 : decode cX10_keeper 33 = .ok (.getfield 50, 3) := by decide +kernel
theorem dX10_keeper_36 : decode cX10_keeper 36 = .ok (.iconst 2, 1) := by decide +kernel
theorem dX10_keeper_37 : decode cX10_keeper 37 = .ok (.aload_n 0, 1) := by decide +kernel
theorem dX10_keeper_38 : decode cX10_keeper 38 = .ok (.getfield 117, 3) := by decide +kernel
theorem dX10_keeper_41 : decode cX10_keeper 41 = .ok (.imul, 1) := by decide +kernel
theorem dX10_keeper_42 : decode cX10_keeper 42 = .ok (.iload_n 1, 1) := by decide +kernel
theorem dX10_keeper_43 : decode cX10_keeper 43 = .ok (.iadd, 1) := by decide +kernel
theorem dX10_keeper_44 : decode cX10_keeper 44 = .ok (.iload_n 2, 1) := by decide +kernel
theorem dX10_keeper_45 : decode cX10_keeper 45 = .ok (.iastore, 1) := by decide +kernel
theorem dX10_keeper_46 : decode cX10_keeper 46 = .ok (.iload_n 3, 1) := by decide +kernel
theorem dX10_keeper_47 : decode cX10_keeper 47 = .ok (.ireturn, 1) := by decide +kernel
theorem dX10_night_0 : decode cX10_night 0 = .ok (.aload_n 0, 1) := by decide +kernel
theorem dX10_night_1 : decode cX10_night 1 = .ok (.getfield 117, 3) := by decide +kernel
theorem dX10_night_4 : decode cX10_night 4 = .ok (.bipush 19, 2) := by decide +kernel
theorem dX10_night_6 : decode cX10_night 6 = .ok (.if_icmp .ne 6, 3) := by decide +kernel
theorem dX10_night_9 : decode cX10_night 9 = .ok (.bipush (-3), 2) := by decide +kernel
theorem dX10_night_11 : decode cX10_night 11 = .ok (.ireturn, 1) := by decide +kernel
theorem dX10_night_12 : decode cX10_night 12 = .ok (.aload_n 0, 1) := by decide +kernel
theorem dX10_night_13 : decode cX10_night 13 = .ok (.dup, 1) := by decide +kernel
theorem dX10_night_14 : decode cX10_night 14 = .ok (.getfield 117, 3) := by decide +kernel
theorem dX10_night_17 : decode cX10_night 17 = .ok (.iconst 1, 1) := by decide +kernel
theorem dX10_night_18 : decode cX10_night 18 = .ok (.iadd, 1) := by decide +kernel
theorem dX10_night_19 : decode cX10_night 19 = .ok (.putfield 117, 3) := by decide +kernel
theorem dX10_night_22 : decode cX10_night 22 = .ok (.aload_n 0, 1) := by decide +kernel
theorem dX10_night_23 : decode cX10_night 23 = .ok (.getfield 50, 3) := by decide +kernel
theorem dX10_night_26 : decode cX10_night 26 = .ok (.iconst 2, 1) := by decide +kernel
theorem dX10_night_27 : decode cX10_night 27 = .ok (.aload_n 0, 1) := by decide +kernel
theorem dX10_night_28 : decode cX10_night 28 = .ok (.getfield 117, 3) := by decide +kernel
theorem dX10_night_31 : decode cX10_night 31 = .ok (.imul, 1) := by decide +kernel
theorem dX10_night_32 : decode cX10_night 32 = .ok (.aload_n 0, 1) := by decide +kernel
theorem dX10_night_33 : decode cX10_night 33 = .ok (.getfield 50, 3) := by decide +kernel
theorem dX10_night_36 : decode cX10_night 36 = .ok (.iconst 2, 1) := by decide +kernel
theorem dX10_night_37 : decode cX10_night 37 = .ok (.aload_n 0, 1) := by decide +kernel
theorem dX10_night_38 : decode cX10_night 38 = .ok (.getfield 117, 3) := by decide +kernel
theorem dX10_night_41 : decode cX10_night 41 = .ok (.imul, 1) := by decide +kernel
theorem dX10_night_42 : decode cX10_night 42 = .ok (.iconst 2, 1) := by decide +kernel
theorem dX10_night_43 : decode cX10_night 43 = .ok (.isub, 1) := by decide +kernel
theorem dX10_night_44 : decode cX10_night 44 = .ok (.iaload, 1) := by decide +kernel
theorem dX10_night_45 : decode cX10_night 45 = .ok (.iastore, 1) := by decide +kernel
theorem dX10_night_46 : decode cX10_night 46 = .ok (.aload_n 0, 1) := by decide +kernel
theorem dX10_night_47 : decode cX10_night 47 = .ok (.getfield 50, 3) := by decide +kernel
theorem dX10_night_50 : decode cX10_night 50 = .ok (.iconst 2, 1) := by decide +kernel
theorem dX10_night_51 : decode cX10_night 51 = .ok (.aload_n 0, 1) := by decide +kernel
theorem dX10_night_52 : decode cX10_night 52 = .ok (.getfield 117, 3) := by decide +kernel
theorem dX10_night_55 : decode cX10_night 55 = .ok (.imul, 1) := by decide +kernel
theorem dX10_night_56 : decode cX10_night 56 = .ok (.iconst 1, 1) := by decide +kernel
theorem dX10_night_57 : decode cX10_night 57 = .ok (.iadd, 1) := by decide +kernel
theorem dX10_night_58 : decode cX10_night 58 = .ok (.aload_n 0, 1) := by decide +kernel
theorem dX10_night_59 : decode cX10_night 59 = .ok (.getfield 50, 3) := by decide +kernel
theorem dX10_night_62 : decode cX10_night 62 = .ok (.iconst 2, 1) := by decide +kernel
theorem dX10_night_63 : decode cX10_night 63 = .ok (.aload_n 0, 1) := by decide +kernel
theorem dX10_night_64 : decode cX10_night 64 = .ok (.getfield 117, 3) := by decide +kernel
theorem dX10_night_67 : decode cX10_night 67 = .ok (.imul, 1) := by decide +kernel
theorem dX10_night_68 : decode cX10_night 68 = .ok (.iconst 1, 1) := by decide +kernel
theorem dX10_night_69 : decode cX10_night 69 = .ok (.isub, 1) := by decide +kernel
theorem dX10_night_70 : decode cX10_night 70 = .ok (.iaload, 1) := by decide +kernel
theorem dX10_night_71 : decode cX10_night 71 = .ok (.iastore, 1) := by decide +kernel
theorem dX10_night_72 : decode cX10_night 72 = .ok (.aload_n 0, 1) := by decide +kernel
theorem dX10_night_73 : decode cX10_night 73 = .ok (.iconst 0, 1) := by decide +kernel
theorem dX10_night_74 : decode cX10_night 74 = .ok (.putfield 114, 3) := by decide +kernel
theorem dX10_night_77 : decode cX10_night 77 = .ok (.iconst 0, 1) := by decide +kernel
theorem dX10_night_78 : decode cX10_night 78 = .ok (.istore_n 1, 1) := by decide +kernel
theorem dX10_night_79 : decode cX10_night 79 = .ok (.iload_n 1, 1) := by decide +kernel
theorem dX10_night_80 : decode cX10_night 80 = .ok (.bipush 12, 2) := by decide +kernel
theorem dX10_night_82 : decode cX10_night 82 = .ok (.if_icmp .ge 16, 3) := by decide +kernel
theorem dX10_night_85 : decode cX10_night 85 = .ok (.aload_n 0, 1) := by decide +kernel
theorem dX10_night_86 : decode cX10_night 86 = .ok (.getfield 25, 3) := by decide +kernel
theorem dX10_night_89 : decode cX10_night 89 = .ok (.iload_n 1, 1) := by decide +kernel
theorem dX10_night_90 : decode cX10_night 90 = .ok (.iconst 0, 1) := by decide +kernel
theorem dX10_night_91 : decode cX10_night 91 = .ok (.bastore, 1) := by decide +kernel
theorem dX10_night_92 : decode cX10_night 92 = .ok (.iinc 1 1, 3) := by decide +kernel
theorem dX10_night_95 : decode cX10_night 95 = .ok (.goto (-16), 3) := by decide +kernel
theorem dX10_night_98 : decode cX10_night 98 = .ok (.aload_n 0, 1) := by decide +kernel
theorem dX10_night_99 : decode cX10_night 99 = .ok (.getfield 117, 3) := by decide +kernel
theorem dX10_night_102 : decode cX10_night 102 = .ok (.ireturn, 1) := by decide +kernel
set_option maxRecDepth 20000 in
theorem ggX10_has_X10_in : GoodIn wsX10_has wsX10_in := goodIn_r _ [7] (by decide +kernel) (by decide +kernel)
set_option maxRecDepth 20000 in
theorem gX10_has_X10_in : GoodIn wsX10_has (va_wsS RX10 96 yX10_in wsX10_in) := goodIn_app (goodIn_of _ (by decide +kernel)) ggX10_has_X10_in
set_option maxRecDepth 20000 in
theorem ggX10_has_X10_isKind : GoodIn wsX10_has wsX10_isKind := goodIn_r _ [11, 12, 4, 5, 6, 7, 13, 14, 15, 16, 17, 18, 19, 20, 21, 22, 23, 24, 25, 26, 27, 28, 29, 30, 31, 32, 33, 34, 35, 36, 37, 38, 39, 40, 41, 42, 43, 44, 45, 46] (by decide +kernel) (by decide +kernel)
set_option maxRecDepth 20000 in
theorem gX10_has_X10_isKind : GoodIn wsX10_has (wsV RX10 107 RX10 yX10_isKind wsX10_isKind) := goodIn_app (goodIn_of _ (by decide +kernel)) ggX10_has_X10_isKind
theorem dX10_has_0 : decode cX10_has 0 = .ok (.iload_n 1, 1) := by decide +kernel
theorem dX10_has_1 : decode cX10_has 1 = .ok (.iconst 0, 1) := by decide +kernel
theorem dX10_has_2 : decode cX10_has 2 = .ok (.iconst 2, 1) := by decide +kernel
theorem dX10_has_3 : decode cX10_has 3 = .ok (.invokestatic 96, 3) := by decide +kernel
theorem dX10_has_6 : decode cX10_has 6 = .ok (.ifCond .eq 11, 3) := by decide +kernel
theorem dX10_has_9 : decode cX10_has 9 = .ok (.aload_n 0, 1) := by decide +kernel
theorem dX10_has_10 : decode cX10_has 10 = .ok (.iload_n 2, 1) := by decide +kernel
theorem dX10_has_11 : decode cX10_has 11 = .ok (.invokevirtual 107, 3) := by decide +kernel
theorem dX10_has_14 : decode cX10_has 14 = .ok (.ifCond .ne 6, 3) := by decide +kernel
theorem dX10_has_17 : decode cX10_has 17 = .ok (.ldc 135, 2) := by decide +kernel
theorem dX10_has_19 : decode cX10_has 19 = .ok (.ireturn, 1) := by decide +kernel
theorem dX10_has_20 : decode cX10_has 20 = .ok (.iload_n 1, 1) := by decide +kernel
theorem dX10_has_21 : decode cX10_has 21 = .ok (.iconst 2, 1) := by decide +kernel
theorem dX10_has_22 : decode cX10_has 22 = .ok (.if_icmp .ne 12, 3) := by decide +kernel
theorem dX10_has_25 : decode cX10_has 25 = .ok (.aload_n 0, 1) := by decide +kernel
theorem dX10_has_26 : decode cX10_has 26 = .ok (.getfield 32, 3) := by decide +kernel
theorem dX10_has_29 : decode cX10_has 29 = .ok (.iload_n 2, 1) := by decide +kernel
theorem dX10_has_30 : decode cX10_has 30 = .ok (.iaload, 1) := by decide +kernel
theorem dX10_has_31 : decode cX10_has 31 = .ok (.goto 14, 3) := by decide +kernel
theorem dX10_has_34 : decode cX10_has 34 = .ok (.aload_n 0, 1) := by decide +kernel
theorem dX10_has_35 : decode cX10_has 35 = .ok (.getfield 35, 3) := by decide +kernel
theorem dX10_has_38 : decode cX10_has 38 = .ok (.bipush 10, 2) := by decide +kernel
theorem dX10_has_40 : decode cX10_has 40 = .ok (.iload_n 1, 1) := by decide +kernel
theorem dX10_has_41 : decode cX10_has 41 = .ok (.imul, 1) := by decide +kernel
theorem dX10_has_42 : decode cX10_has 42 = .ok (.iload_n 2, 1) := by decide +kernel
theorem dX10_has_43 : decode cX10_has 43 = .ok (.iadd, 1) := by decide +kernel
theorem dX10_has_44 : decode cX10_has 44 = .ok (.iaload, 1) := by decide +kernel
theorem dX10_has_45 : decode cX10_has 45 = .ok (.ireturn, 1) := by decide +kernel
set_option maxRecDepth 20000 in
theorem ggX10_all_X10_isKind : GoodIn wsX10_all wsX10_isKind := goodIn_r _ [7, 8, 9, 10, 6, 11, 12, 13, 14, 15, 16, 17, 18, 19, 20, 21, 22, 23, 24, 25, 26, 27, 28, 29, 30, 31, 32, 33, 34, 35, 36, 37, 38, 39, 40, 41, 42, 43, 44, 45] (by decide +kernel) (by decide +kernel)
set_option maxRecDepth 20000 in
theorem gX10_all_X10_isKind : GoodIn wsX10_all (wsV RX10 107 RX10 yX10_isKind wsX10_isKind) := goodIn_app (goodIn_of _ (by decide +kernel)) ggX10_all_X10_isKind
set_option maxRecDepth 20000 in
theorem ggX10_all_X10_in : GoodIn wsX10_all wsX10_in := goodIn_r _ [11] (by decide +kernel) (by decide +kernel)
set_option maxRecDepth 20000 in
theorem gX10_all_X10_in : GoodIn wsX10_all (va_wsS RX10 96 yX10_in wsX10_in) := goodIn_app (goodIn_of _ (by decide +kernel)) ggX10_all_X10_in
theorem dX10_all_0 : decode cX10_all 0 = .ok (.aload_n 0, 1) := by decide +kernel
theorem dX10_all_1 : decode cX10_all 1 = .ok (.iload_n 1, 1) := by decide +kernel
theorem dX10_all_2 : decode cX10_all 2 = .ok (.invokevirtual 107, 3) := by decide +kernel
theorem dX10_all_5 : decode cX10_all 5 = .ok (.ifCond .eq 25, 3) := by decide +kernel
theorem dX10_all_8 : decode cX10_all 8 = .ok (.iload_n 2, 1) := by decide +kernel
theorem dX10_all_9 : decode cX10_all 9 = .ok (.iconst 0, 1) := by decide +kernel
theorem dX10_all_10 : decode cX10_all 10 = .ok (.iconst 4, 1) := by decide +kernel
theorem dX10_all_11 : decode cX10_all 11 = .ok (.invokestatic 96, 3) := by decide +kernel
theorem dX10_all_14 : decode cX10_all 14 = .ok (.ifCond .eq 16, 3) := by decide +kernel
theorem dX10_all_17 : decode cX10_all 17 = .ok (.aload_n 0, 1) := by decide +kernel
theorem dX10_all_18 : decode cX10_all 18 = .ok (.getfield 53, 3) := by decide +kernel
theorem dX10_all_21 : decode cX10_all 21 = .ok (.iconst 5, 1) := by decide +kernel
theorem dX10_all_22 : decode cX10_all 22 = .ok (.iload_n 1, 1) := by decide +kernel
theorem dX10_all_23 : decode cX10_all 23 = .ok (.imul, 1) := by decide +kernel
theorem dX10_all_24 : decode cX10_all 24 = .ok (.iload_n 2, 1) := by decide +kernel
theorem dX10_all_25 : decode cX10_all 25 = .ok (.iadd, 1) := by decide +kernel
theorem dX10_all_26 : decode cX10_all 26 = .ok (.iaload, 1) := by decide +kernel
theorem dX10_all_27 : decode cX10_all 27 = .ok (.goto 5, 3) := by decide +kernel
theorem dX10_all_30 : decode cX10_all 30 = .ok (.ldc 135, 2) := by decide +kernel
theorem dX10_all_32 : decode cX10_all 32 = .ok (.ireturn, 1) := by decide +kernel
set_option maxRecDepth 20000 in
theorem ggX10_spanOf_X10_spanNow : GoodIn wsX10_spanOf wsX10_spanNow := goodIn_r _ [7, 8, 9, 10, 11, 12, 13, 14, 15, 16, 17, 18, 19, 20, 21, 22, 23, 24, 25, 26, 27, 28, 29, 30, 31, 32, 33, 34, 35, 36, 37, 38, 39, 40, 41, 42, 43, 44] (by decide +kernel) (by decide +kernel)
set_option maxRecDepth 20000 in
theorem gX10_spanOf_X10_spanNow : GoodIn wsX10_spanOf (wsV RX10 154 RX10 yX10_spanNow wsX10_spanNow) := goodIn_app (goodIn_of _ (by decide +kernel)) ggX10_spanOf_X10_spanNow
theorem dX10_spanOf_0 : decode cX10_spanOf 0 = .ok (.aload_n 0, 1) := by decide +kernel
theorem dX10_spanOf_1 : decode cX10_spanOf 1 = .ok (.getfield 41, 3) := by decide +kernel
theorem dX10_spanOf_4 : decode cX10_spanOf 4 = .ok (.iload_n 1, 1) := by decide +kernel
theorem dX10_spanOf_5 : decode cX10_spanOf 5 = .ok (.baload, 1) := by decide +kernel
theorem dX10_spanOf_6 : decode cX10_spanOf 6 = .ok (.ifCond .eq 12, 3) := by decide +kernel
theorem dX10_spanOf_9 : decode cX10_spanOf 9 = .ok (.aload_n 0, 1) := by decide +kernel
theorem dX10_spanOf_10 : decode cX10_spanOf 10 = .ok (.getfield 47, 3) := by decide +kernel
theorem dX10_spanOf_13 : decode cX10_spanOf 13 = .ok (.iload_n 1, 1) := by decide +kernel
theorem dX10_spanOf_14 : decode cX10_spanOf 14 = .ok (.iaload, 1) := by decide +kernel
theorem dX10_spanOf_15 : decode cX10_spanOf 15 = .ok (.goto 8, 3) := by decide +kernel
theorem dX10_spanOf_18 : decode cX10_spanOf 18 = .ok (.aload_n 0, 1) := by decide +kernel
theorem dX10_spanOf_19 : decode cX10_spanOf 19 = .ok (.iload_n 1, 1) := by decide +kernel
theorem dX10_spanOf_20 : decode cX10_spanOf 20 = .ok (.invokevirtual 154, 3) := by decide +kernel
theorem dX10_spanOf_23 : decode cX10_spanOf 23 = .ok (.ireturn, 1) := by decide +kernel
theorem dX10_spanNow_0 : decode cX10_spanNow 0 = .ok (.iload_n 1, 1) := by decide +kernel
theorem dX10_spanNow_1 : decode cX10_spanNow 1 = .ok (.bipush 10, 2) := by decide +kernel
theorem dX10_spanNow_3 : decode cX10_spanNow 3 = .ok (.irem, 1) := by decide +kernel
theorem dX10_spanNow_4 : decode cX10_spanNow 4 = .ok (.istore_n 2, 1) := by decide +kernel
theorem dX10_spanNow_5 : decode cX10_spanNow 5 = .ok (.aload_n 0, 1) := by decide +kernel
theorem dX10_spanNow_6 : decode cX10_spanNow 6 = .ok (.getfield 29, 3) := by decide +kernel
theorem dX10_spanNow_9 : decode cX10_spanNow 9 = .ok (.iconst 0, 1) := by decide +kernel
theorem dX10_spanNow_10 : decode cX10_spanNow 10 = .ok (.iaload, 1) := by decide +kernel
theorem dX10_spanNow_11 : decode cX10_spanNow 11 = .ok (.bipush 100, 2) := by decide +kernel
theorem dX10_spanNow_13 : decode cX10_spanNow 13 = .ok (.imul, 1) := by decide +kernel
theorem dX10_spanNow_14 : decode cX10_spanNow 14 = .ok (.aload_n 0, 1) := by decide +kernel
theorem dX10_spanNow_15 : decode cX10_spanNow 15 = .ok (.getfield 16, 3) := by decide +kernel
theorem dX10_spanNow_18 : decode cX10_spanNow 18 = .ok (.iload_n 2, 1) := by decide +kernel
theorem dX10_spanNow_19 : decode cX10_spanNow 19 = .ok (.iaload, 1) := by decide +kernel
theorem dX10_spanNow_20 : decode cX10_spanNow 20 = .ok (.iadd, 1) := by decide +kernel
theorem dX10_spanNow_21 : decode cX10_spanNow 21 = .ok (.iconst 1, 1) := by decide +kernel
theorem dX10_spanNow_22 : decode cX10_spanNow 22 = .ok (.isub, 1) := by decide +kernel
theorem dX10_spanNow_23 : decode cX10_spanNow 23 = .ok (.aload_n 0, 1) := by decide +kernel
theorem dX10_spanNow_24 : decode cX10_spanNow 24 = .ok (.getfield 16, 3) := by decide +kernel
theorem dX10_spanNow_27 : decode cX10_spanNow 27 = .ok (.iload_n 2, 1) := by decide +kernel
theorem dX10_spanNow_28 : decode cX10_spanNow 28 = .ok (.iaload, 1) := by decide +kernel
theorem dX10_spanNow_29 : decode cX10_spanNow 29 = .ok (.idiv, 1) := by decide +kernel
theorem dX10_spanNow_30 : decode cX10_spanNow 30 = .ok (.aload_n 0, 1) := by decide +kernel
theorem dX10_spanNow_31 : decode cX10_spanNow 31 = .ok (.getfield 29, 3) := by decide +kernel
theorem dX10_spanNow_34 : decode cX10_spanNow 34 = .ok (.iconst 1, 1) := by decide +kernel
theorem dX10_spanNow_35 : decode cX10_spanNow 35 = .ok (.iaload, 1) := by decide +kernel
theorem dX10_spanNow_36 : decode cX10_spanNow 36 = .ok (.aload_n 0, 1) := by decide +kernel
theorem dX10_spanNow_37 : decode cX10_spanNow 37 = .ok (.getfield 44, 3) := by decide +kernel
theorem dX10_spanNow_40 : decode cX10_spanNow 40 = .ok (.iload_n 1, 1) := by decide +kernel
theorem dX10_spanNow_41 : decode cX10_spanNow 41 = .ok (.iaload, 1) := by decide +kernel
theorem dX10_spanNow_42 : decode cX10_spanNow 42 = .ok (.imul, 1) := by decide +kernel
theorem dX10_spanNow_43 : decode cX10_spanNow 43 = .ok (.iadd, 1) := by decide +kernel
theorem dX10_spanNow_44 : decode cX10_spanNow 44 = .ok (.ireturn, 1) := by decide +kernel
set_option maxRecDepth 20000 in
theorem ggX10_isTold_X10_spanOf : GoodIn wsX10_isTold wsX10_spanOf := goodIn_r _ [7, 2, 8, 9, 10, 11, 6, 12, 13, 14, 15, 16, 17, 18, 19, 20, 21, 22, 23, 24, 25, 26, 27, 28, 29, 30, 31, 32, 33, 34, 35, 36, 37, 38, 39, 40, 41, 42, 43, 44, 45, 46, 47, 48, 49] (by decide +kernel) (by decide +kernel)
set_option maxRecDepth 20000 in
theorem gX10_isTold_X10_spanOf : GoodIn wsX10_isTold (wsV RX10 157 RX10 yX10_spanOf wsX10_spanOf) := goodIn_app (goodIn_of _ (by decide +kernel)) ggX10_isTold_X10_spanOf
theorem dX10_isTold_0 : decode cX10_isTold 0 = .ok (.aload_n 0, 1) := by decide +kernel
theorem dX10_isTold_1 : decode cX10_isTold 1 = .ok (.getfield 38, 3) := by decide +kernel
theorem dX10_isTold_4 : decode cX10_isTold 4 = .ok (.iload_n 1, 1) := by decide +kernel
theorem dX10_isTold_5 : decode cX10_isTold 5 = .ok (.iaload, 1) := by decide +kernel
theorem dX10_isTold_6 : decode cX10_isTold 6 = .ok (.ifCond .ge 13, 3) := by decide +kernel
theorem dX10_isTold_9 : decode cX10_isTold 9 = .ok (.aload_n 0, 1) := by decide +kernel
theorem dX10_isTold_10 : decode cX10_isTold 10 = .ok (.getfield 38, 3) := by decide +kernel
theorem dX10_isTold_13 : decode cX10_isTold 13 = .ok (.iload_n 1, 1) := by decide +kernel
theorem dX10_isTold_14 : decode cX10_isTold 14 = .ok (.iaload, 1) := by decide +kernel
theorem dX10_isTold_15 : decode cX10_isTold 15 = .ok (.ineg, 1) := by decide +kernel
theorem dX10_isTold_16 : decode cX10_isTold 16 = .ok (.goto 9, 3) := by decide +kernel
theorem dX10_isTold_19 : decode cX10_isTold 19 = .ok (.aload_n 0, 1) := by decide +kernel
theorem dX10_isTold_20 : decode cX10_isTold 20 = .ok (.getfield 38, 3) := by decide +kernel
theorem dX10_isTold_23 : decode cX10_isTold 23 = .ok (.iload_n 1, 1) := by decide +kernel
theorem dX10_isTold_24 : decode cX10_isTold 24 = .ok (.iaload, 1) := by decide +kernel
theorem dX10_isTold_25 : decode cX10_isTold 25 = .ok (.istore_n 2, 1) := by decide +kernel
theorem dX10_isTold_26 : decode cX10_isTold 26 = .ok (.aload_n 0, 1) := by decide +kernel
theorem dX10_isTold_27 : decode cX10_isTold 27 = .ok (.getfield 41, 3) := by decide +kernel
theorem dX10_isTold_30 : decode cX10_isTold 30 = .ok (.iload_n 1, 1) := by decide +kernel
theorem dX10_isTold_31 : decode cX10_isTold 31 = .ok (.baload, 1) := by decide +kernel
theorem dX10_isTold_32 : decode cX10_isTold 32 = .ok (.ifCond .eq 16, 3) := by decide +kernel
theorem dX10_isTold_35 : decode cX10_isTold 35 = .ok (.iload_n 2, 1) := by decide +kernel
theorem dX10_isTold_36 : decode cX10_isTold 36 = .ok (.aload_n 0, 1) := by decide +kernel
theorem dX10_isTold_37 : decode cX10_isTold 37 = .ok (.iload_n 1, 1) := by decide +kernel
theorem dX10_isTold_38 : decode cX10_isTold 38 = .ok (.invokevirtual 157, 3) := by decide +kernel
theorem dX10_isTold_41 : decode cX10_isTold 41 = .ok (.if_icmp .le 7, 3) := by decide +kernel
theorem dX10_isTold_44 : decode cX10_isTold 44 = .ok (.iconst 1, 1) := by decide +kernel
theorem dX10_isTold_45 : decode cX10_isTold 45 = .ok (.goto 4, 3) := by decide +kernel
theorem dX10_isTold_48 : decode cX10_isTold 48 = .ok (.iconst 0, 1) := by decide +kernel
theorem dX10_isTold_49 : decode cX10_isTold 49 = .ok (.ireturn, 1) := by decide +kernel
set_option maxRecDepth 20000 in
theorem ggX10_gap_X10_in : GoodIn wsX10_gap wsX10_in := goodIn_r _ [11] (by decide +kernel) (by decide +kernel)
set_option maxRecDepth 20000 in
theorem gX10_gap_X10_in : GoodIn wsX10_gap (va_wsS RX10 96 yX10_in wsX10_in) := goodIn_app (goodIn_of _ (by decide +kernel)) ggX10_gap_X10_in
set_option maxRecDepth 20000 in
theorem ggX10_gap_X10_isBar : GoodIn wsX10_gap wsX10_isBar := goodIn_r _ [14, 8, 9, 10, 11] (by decide +kernel) (by decide +kernel)
set_option maxRecDepth 20000 in
theorem gX10_gap_X10_isBar : GoodIn wsX10_gap (va_wsS RX10 132 yX10_isBar wsX10_isBar) := goodIn_app (goodIn_of _ (by decide +kernel)) ggX10_gap_X10_isBar
set_option maxRecDepth 20000 in
theorem ggX10_gap_X10_isKind : GoodIn wsX10_gap wsX10_isKind := goodIn_r _ [18, 19, 8, 9, 10, 11, 38, 39, 40, 41, 42, 43, 44, 45, 46, 47, 48, 49, 50, 51, 52, 53, 54, 55, 56, 57, 58, 59, 60, 61, 62, 63, 64, 65, 66, 67, 68, 69, 70, 71] (by decide +kernel) (by decide +kernel)
set_option maxRecDepth 20000 in
theorem gX10_gap_X10_isKind : GoodIn wsX10_gap (wsV RX10 107 RX10 yX10_isKind wsX10_isKind) := goodIn_app (goodIn_of _ (by decide +kernel)) ggX10_gap_X10_isKind
set_option maxRecDepth 20000 in
theorem ggX10_gap_X10_at : GoodIn wsX10_gap wsX10_at := goodIn_r _ [22] (by decide +kernel) (by decide +kernel)
set_option maxRecDepth 20000 in
theorem gX10_gap_X10_at : GoodIn wsX10_gap (va_wsS RX10 120 yX10_at wsX10_at) := goodIn_app (goodIn_of _ (by decide +kernel)) ggX10_gap_X10_at
set_option maxRecDepth 20000 in
theorem ggX10_gap_X10_spanOf : GoodIn wsX10_gap wsX10_spanOf := goodIn_r _ [26, 3, 27, 28, 29, 30, 10, 31, 32, 33, 6, 38, 39, 40, 41, 42, 43, 44, 45, 46, 47, 48, 49, 50, 51, 52, 53, 54, 55, 56, 57, 58, 59, 60, 61, 62, 63, 64, 65, 66, 67, 68, 69, 70, 71] (by decide +kernel) (by decide +kernel)
set_option maxRecDepth 20000 in
theorem gX10_gap_X10_spanOf : GoodIn wsX10_gap (wsV RX10 157 RX10 yX10_spanOf wsX10_spanOf) := goodIn_app (goodIn_of _ (by decide +kernel)) ggX10_gap_X10_spanOf
set_option maxRecDepth 20000 in
theorem ggX10_gap_X10_isTold : GoodIn wsX10_gap wsX10_isTold := goodIn_r _ [37, 4, 3, 23, 24, 25, 10, 26, 27, 28, 29, 30, 31, 32, 33, 6, 38, 39, 40, 41, 42, 43, 44, 45, 46, 47, 48, 49, 50, 51, 52, 53, 54, 55, 56, 57, 58, 59, 60, 61, 62, 63, 64, 65, 66, 67, 68, 69, 70, 71] (by decide +kernel) (by decide +kernel)
set_option maxRecDepth 20000 in
theorem gX10_gap_X10_isTold : GoodIn wsX10_gap (wsV RX10 161 RX10 yX10_isTold wsX10_isTold) := goodIn_app (goodIn_of _ (by decide +kernel)) ggX10_gap_X10_isTold
theorem dX10_gap_0 : decode cX10_gap 0 = .ok (.iload_n 1, 1) := by decide +kernel
theorem dX10_gap_1 : decode cX10_gap 1 = .ok (.iconst 0, 1) := by decide +kernel
theorem dX10_gap_2 : decode cX10_gap 2 = .ok (.aload_n 0, 1) := by decide +kernel
theorem dX10_gap_3 : decode cX10_gap 3 = .ok (.getfield 117, 3) := by decide +kernel
theorem dX10_gap_6 : decode cX10_gap 6 = .ok (.invokestatic 96, 3) := by decide +kernel
theorem dX10_gap_9 : decode cX10_gap 9 = .ok (.ifCond .eq 28, 3) := by decide +kernel
theorem dX10_gap_12 : decode cX10_gap 12 = .ok (.iload_n 2, 1) := by decide +kernel
theorem dX10_gap_13 : decode cX10_gap 13 = .ok (.invokestatic 132, 3) := by decide +kernel
theorem dX10_gap_16 : decode cX10_gap 16 = .ok (.ifCond .eq 21, 3) := by decide +kernel
theorem dX10_gap_19 : decode cX10_gap 19 = .ok (.aload_n 0, 1) := by decide +kernel
theorem dX10_gap_20 : decode cX10_gap 20 = .ok (.iload_n 3, 1) := by decide +kernel
theorem dX10_gap_21 : decode cX10_gap 21 = .ok (.invokevirtual 107, 3) := by decide +kernel
theorem dX10_gap_24 : decode cX10_gap 24 = .ok (.ifCond .eq 13, 3) := by decide +kernel
theorem dX10_gap_27 : decode cX10_gap 27 = .ok (.iload 4, 2) := by decide +kernel
theorem dX10_gap_29 : decode cX10_gap 29 = .ok (.iconst 0, 1) := by decide +kernel
theorem dX10_gap_30 : decode cX10_gap 30 = .ok (.iconst 4, 1) := by decide +kernel
theorem dX10_gap_31 : decode cX10_gap 31 = .ok (.invokestatic 96, 3) := by decide +kernel
theorem dX10_gap_34 : decode cX10_gap 34 = .ok (.ifCond .ne 6, 3) := by decide +kernel
theorem dX10_gap_37 : decode cX10_gap 37 = .ok (.ldc 135, 2) := by decide +kernel
theorem dX10_gap_39 : decode cX10_gap 39 = .ok (.ireturn, 1) := by decide +kernel
theorem dX10_gap_40 : decode cX10_gap 40 = .ok (.iload_n 1, 1) := by decide +kernel
theorem dX10_gap_41 : decode cX10_gap 41 = .ok (.iload_n 2, 1) := by decide +kernel
theorem dX10_gap_42 : decode cX10_gap 42 = .ok (.iload_n 3, 1) := by decide +kernel
theorem dX10_gap_43 : decode cX10_gap 43 = .ok (.invokestatic 120, 3) := by decide +kernel
theorem dX10_gap_46 : decode cX10_gap 46 = .ok (.istore 5, 2) := by decide +kernel
theorem dX10_gap_48 : decode cX10_gap 48 = .ok (.iload 4, 2) := by decide +kernel
theorem dX10_gap_50 : decode cX10_gap 50 = .ok (.tableswitch 83 0 3 #[30, 53, 60, 75], 30) := by decide +kernel
theorem dX10_gap_80 : decode cX10_gap 80 = .ok (.aload_n 0, 1) := by decide +kernel
theorem dX10_gap_81 : decode cX10_gap 81 = .ok (.getfield 41, 3) := by decide +kernel
theorem dX10_gap_84 : decode cX10_gap 84 = .ok (.iload 5, 2) := by decide +kernel
theorem dX10_gap_86 : decode cX10_gap 86 = .ok (.baload, 1) := by decide +kernel
theorem dX10_gap_87 : decode cX10_gap 87 = .ok (.ifCond .eq 13, 3) := by decide +kernel
theorem dX10_gap_90 : decode cX10_gap 90 = .ok (.aload_n 0, 1) := by decide +kernel
theorem dX10_gap_91 : decode cX10_gap 91 = .ok (.getfield 38, 3) := by decide +kernel
theorem dX10_gap_94 : decode cX10_gap 94 = .ok (.iload 5, 2) := by decide +kernel
theorem dX10_gap_96 : decode cX10_gap 96 = .ok (.iaload, 1) := by decide +kernel
theorem dX10_gap_97 : decode cX10_gap 97 = .ok (.goto 5, 3) := by decide +kernel
theorem dX10_gap_100 : decode cX10_gap 100 = .ok (.ldc 160, 2) := by decide +kernel
theorem dX10_gap_102 : decode cX10_gap 102 = .ok (.ireturn, 1) := by decide +kernel
theorem dX10_gap_103 : decode cX10_gap 103 = .ok (.aload_n 0, 1) := by decide +kernel
theorem dX10_gap_104 : decode cX10_gap 104 = .ok (.iload 5, 2) := by decide +kernel
theorem dX10_gap_106 : decode cX10_gap 106 = .ok (.invokevirtual 157, 3) := by decide +kernel
theorem dX10_gap_109 : decode cX10_gap 109 = .ok (.ireturn, 1) := by decide +kernel
theorem dX10_gap_110 : decode cX10_gap 110 = .ok (.aload_n 0, 1) := by decide +kernel
theorem dX10_gap_111 : decode cX10_gap 111 = .ok (.iload 5, 2) := by decide +kernel
theorem dX10_gap_113 : decode cX10_gap 113 = .ok (.invokevirtual 161, 3) := by decide +kernel
theorem dX10_gap_116 : decode cX10_gap 116 = .ok (.ifCond .eq 7, 3) := by decide +kernel
theorem dX10_gap_119 : decode cX10_gap 119 = .ok (.iconst 1, 1) := by decide +kernel
theorem dX10_gap_120 : decode cX10_gap 120 = .ok (.goto 4, 3) := by decide +kernel
theorem dX10_gap_123 : decode cX10_gap 123 = .ok (.iconst 0, 1) := by decide +kernel
theorem dX10_gap_124 : decode cX10_gap 124 = .ok (.ireturn, 1) := by decide +kernel
theorem dX10_gap_125 : decode cX10_gap 125 = .ok (.aload_n 0, 1) := by decide +kernel
theorem dX10_gap_126 : decode cX10_gap 126 = .ok (.getfield 44, 3) := by decide +kernel
theorem dX10_gap_129 : decode cX10_gap 129 = .ok (.iload 5, 2) := by decide +kernel
theorem dX10_gap_131 : decode cX10_gap 131 = .ok (.iaload, 1) := by decide +kernel
theorem dX10_gap_132 : decode cX10_gap 132 = .ok (.ireturn, 1) := by decide +kernel
theorem dX10_gap_133 : decode cX10_gap 133 = .ok (.aload_n 0, 1) := by decide +kernel
theorem dX10_gap_134 : decode cX10_gap 134 = .ok (.getfield 50, 3) := by decide +kernel
theorem dX10_gap_137 : decode cX10_gap 137 = .ok (.iconst 2, 1) := by decide +kernel
theorem dX10_gap_138 : decode cX10_gap 138 = .ok (.iload_n 1, 1) := by decide +kernel
theorem dX10_gap_139 : decode cX10_gap 139 = .ok (.imul, 1) := by decide +kernel
theorem dX10_gap_140 : decode cX10_gap 140 = .ok (.iload_n 2, 1) := by decide +kernel
theorem dX10_gap_141 : decode cX10_gap 141 = .ok (.iadd, 1) := by decide +kernel
theorem dX10_gap_142 : decode cX10_gap 142 = .ok (.iaload, 1) := by decide +kernel
theorem dX10_gap_143 : decode cX10_gap 143 = .ok (.ireturn, 1) := by decide +kernel
set_option maxRecDepth 20000 in
theorem ggX10_counts_X10_at : GoodIn wsX10_counts wsX10_at := goodIn_r _ [7] (by decide +kernel) (by decide +kernel)
set_option maxRecDepth 20000 in
theorem gX10_counts_X10_at : GoodIn wsX10_counts (va_wsS RX10 120 yX10_at wsX10_at) := goodIn_app (goodIn_of _ (by decide +kernel)) ggX10_counts_X10_at
theorem dX10_counts_0 : decode cX10_counts 0 = .ok (.iload_n 1, 1) := by decide +kernel
theorem dX10_counts_1 : decode cX10_counts 1 = .ok (.iload_n 2, 1) := by decide +kernel
theorem dX10_counts_2 : decode cX10_counts 2 = .ok (.iload 4, 2) := by decide +kernel
theorem dX10_counts_4 : decode cX10_counts 4 = .ok (.invokestatic 120, 3) := by decide +kernel
theorem dX10_counts_7 : decode cX10_counts 7 = .ok (.istore 5, 2) := by decide +kernel
theorem dX10_counts_9 : decode cX10_counts 9 = .ok (.aload_n 0, 1) := by decide +kernel
theorem dX10_counts_10 : decode cX10_counts 10 = .ok (.getfield 50, 3) := by decide +kernel
theorem dX10_counts_13 : decode cX10_counts 13 = .ok (.iconst 2, 1) := by decide +kernel
theorem dX10_counts_14 : decode cX10_counts 14 = .ok (.iload_n 1, 1) := by decide +kernel
theorem dX10_counts_15 : decode cX10_counts 15 = .ok (.imul, 1) := by decide +kernel
theorem dX10_counts_16 : decode cX10_counts 16 = .ok (.iload_n 2, 1) := by decide +kernel
theorem dX10_counts_17 : decode cX10_counts 17 = .ok (.iadd, 1) := by decide +kernel
theorem dX10_counts_18 : decode cX10_counts 18 = .ok (.iaload, 1) := by decide +kernel
theorem dX10_counts_19 : decode cX10_counts 19 = .ok (.iload_n 3, 1) := by decide +kernel
theorem dX10_counts_20 : decode cX10_counts 20 = .ok (.if_icmp .ne 27, 3) := by decide +kernel
theorem dX10_counts_23 : decode cX10_counts 23 = .ok (.aload_n 0, 1) := by decide +kernel
theorem dX10_counts_24 : decode cX10_counts 24 = .ok (.getfield 41, 3) := by decide +kernel
theorem dX10_counts_27 : decode cX10_counts 27 = .ok (.iload 5, 2) := by decide +kernel
theorem dX10_counts_29 : decode cX10_counts 29 = .ok (.baload, 1) := by decide +kernel
theorem dX10_counts_30 : decode cX10_counts 30 = .ok (.ifCond .eq 17, 3) := by decide +kernel
theorem dX10_counts_33 : decode cX10_counts 33 = .ok (.aload_n 0, 1) := by decide +kernel
theorem dX10_counts_34 : decode cX10_counts 34 = .ok (.getfield 44, 3) := by decide +kernel
theorem dX10_counts_37 : decode cX10_counts 37 = .ok (.iload 5, 2) := by decide +kernel
theorem dX10_counts_39 : decode cX10_counts 39 = .ok (.iaload, 1) := by decide +kernel
theorem dX10_counts_40 : decode cX10_counts 40 = .ok (.ifCond .le 7, 3) := by decide +kernel
theorem dX10_counts_43 : decode cX10_counts 43 = .ok (.iconst 1, 1) := by decide +kernel
theorem dX10_counts_44 : decode cX10_counts 44 = .ok (.goto 4, 3) := by decide +kernel
theorem dX10_counts_47 : decode cX10_counts 47 = .ok (.iconst 0, 1) := by decide +kernel
theorem dX10_counts_48 : decode cX10_counts 48 = .ok (.ireturn, 1) := by decide +kernel
theorem dX10_common_0 : decode cX10_common 0 = .ok (.lload_n 0, 1) := by decide +kernel
theorem dX10_common_1 : decode cX10_common 1 = .ok (.lconst 0, 1) := by decide +kernel
theorem dX10_common_2 : decode cX10_common 2 = .ok (.lcmp, 1) := by decide +kernel
theorem dX10_common_3 : decode cX10_common 3 = .ok (.ifCond .ge 8, 3) := by decide +kernel
theorem dX10_common_6 : decode cX10_common 6 = .ok (.lload_n 0, 1) := by decide +kernel
theorem dX10_common_7 : decode cX10_common 7 = .ok (.lneg, 1) := by decide +kernel
theorem dX10_common_8 : decode cX10_common 8 = .ok (.goto 4, 3) := by decide +kernel
theorem dX10_common_11 : decode cX10_common 11 = .ok (.lload_n 0, 1) := by decide +kernel
theorem dX10_common_12 : decode cX10_common 12 = .ok (.lstore 4, 2) := by decide +kernel
theorem dX10_common_14 : decode cX10_common 14 = .ok (.lload_n 2, 1) := by decide +kernel
theorem dX10_common_15 : decode cX10_common 15 = .ok (.lstore 6, 2) := by decide +kernel
theorem dX10_common_17 : decode cX10_common 17 = .ok (.lload 6, 2) := by decide +kernel
theorem dX10_common_19 : decode cX10_common 19 = .ok (.lconst 0, 1) := by decide +kernel
theorem dX10_common_20 : decode cX10_common 20 = .ok (.lcmp, 1) := by decide +kernel
theorem dX10_common_21 : decode cX10_common 21 = .ok (.ifCond .eq 21, 3) := by decide +kernel
theorem dX10_common_24 : decode cX10_common 24 = .ok (.lload 4, 2) := by decide +kernel
theorem dX10_common_26 : decode cX10_common 26 = .ok (.lload 6, 2) := by decide +kernel
theorem dX10_common_28 : decode cX10_common 28 = .ok (.lrem, 1) := by decide +kernel
theorem dX10_common_29 : decode cX10_common 29 = .ok (.lstore 8, 2) := by decide +kernel
theorem dX10_common_31 : decode cX10_common 31 = .ok (.lload 6, 2) := by decide +kernel
theorem dX10_common_33 : decode cX10_common 33 = .ok (.lstore 4, 2) := by decide +kernel
theorem dX10_common_35 : decode cX10_common 35 = .ok (.lload 8, 2) := by decide +kernel
theorem dX10_common_37 : decode cX10_common 37 = .ok (.lstore 6, 2) := by decide +kernel
theorem dX10_common_39 : decode cX10_common 39 = .ok (.goto (-22), 3) := by decide +kernel
theorem dX10_common_42 : decode cX10_common 42 = .ok (.lload 4, 2) := by decide +kernel
theorem dX10_common_44 : decode cX10_common 44 = .ok (.lreturn, 1) := by decide +kernel
set_option maxRecDepth 20000 in
theorem ggX10_over_X10_in : GoodIn wsX10_over wsX10_in := goodIn_r _ [9] (by decide +kernel) (by decide +kernel)
set_option maxRecDepth 20000 in
theorem gX10_over_X10_in : GoodIn wsX10_over (va_wsS RX10 96 yX10_in wsX10_in) := goodIn_app (goodIn_of _ (by decide +kernel)) ggX10_over_X10_in
set_option maxRecDepth 20000 in
theorem ggX10_over_X10_isKind : GoodIn wsX10_over wsX10_isKind := goodIn_r _ [13, 14, 6, 7, 8, 9, 27, 28, 29, 30, 31, 32, 33, 34, 35, 36, 37, 38, 39, 40, 41, 42, 43, 44, 45, 46, 47, 48, 49, 50, 51, 52, 53, 54, 55, 56, 57, 58, 59, 60] (by decide +kernel) (by decide +kernel)
set_option maxRecDepth 20000 in
theorem gX10_over_X10_isKind : GoodIn wsX10_over (wsV RX10 107 RX10 yX10_isKind wsX10_isKind) := goodIn_app (goodIn_of _ (by decide +kernel)) ggX10_over_X10_isKind
set_option maxRecDepth 20000 in
theorem ggX10_over_X10_counts : GoodIn wsX10_over wsX10_counts := goodIn_r _ [18, 19, 20, 3, 21, 22, 8, 23, 27, 28, 29, 30, 31, 32, 33, 34, 35, 36, 37, 38, 39, 40, 41, 42, 43, 44, 45, 46, 47, 48, 49, 50, 51, 52, 53, 54, 55, 56, 57, 58, 59, 60] (by decide +kernel) (by decide +kernel)
set_option maxRecDepth 20000 in
theorem gX10_over_X10_counts : GoodIn wsX10_over (wsV RX10 166 RX10 yX10_counts wsX10_counts) := goodIn_app (goodIn_of _ (by decide +kernel)) ggX10_over_X10_counts
set_option maxRecDepth 20000 in
theorem ggX10_over_X10_at : GoodIn wsX10_over wsX10_at := goodIn_r _ [23] (by decide +kernel) (by decide +kernel)
set_option maxRecDepth 20000 in
theorem gX10_over_X10_at : GoodIn wsX10_over (va_wsS RX10 120 yX10_at wsX10_at) := goodIn_app (goodIn_of _ (by decide +kernel)) ggX10_over_X10_at
set_option maxRecDepth 20000 in
theorem ggX10_over_X10_common : GoodIn wsX10_over wsX10_common := goodIn_r _ [26] (by decide +kernel) (by decide +kernel)
set_option maxRecDepth 20000 in
theorem gX10_over_X10_common : GoodIn wsX10_over (va_wsS RX10 172 yX10_common wsX10_common) := goodIn_app (goodIn_of _ (by decide +kernel)) ggX10_over_X10_common
theorem dX10_over_0 : decode cX10_over 0 = .ok (.iload_n 1, 1) := by decide +kernel
theorem dX10_over_1 : decode cX10_over 1 = .ok (.iconst 0, 1) := by decide +kernel
theorem dX10_over_2 : decode cX10_over 2 = .ok (.iconst 2, 1) := by decide +kernel
theorem dX10_over_3 : decode cX10_over 3 = .ok (.invokestatic 96, 3) := by decide +kernel
theorem dX10_over_6 : decode cX10_over 6 = .ok (.ifCond .eq 20, 3) := by decide +kernel
theorem dX10_over_9 : decode cX10_over 9 = .ok (.aload_n 0, 1) := by decide +kernel
theorem dX10_over_10 : decode cX10_over 10 = .ok (.iload_n 2, 1) := by decide +kernel
theorem dX10_over_11 : decode cX10_over 11 = .ok (.invokevirtual 107, 3) := by decide +kernel
theorem dX10_over_14 : decode cX10_over 14 = .ok (.ifCond .eq 12, 3) := by decide +kernel
theorem dX10_over_17 : decode cX10_over 17 = .ok (.iload_n 3, 1) := by decide +kernel
theorem dX10_over_18 : decode cX10_over 18 = .ok (.iconst 0, 1) := by decide +kernel
theorem dX10_over_19 : decode cX10_over 19 = .ok (.iconst 1, 1) := by decide +kernel
theorem dX10_over_20 : decode cX10_over 20 = .ok (.invokestatic 96, 3) := by decide +kernel
theorem dX10_over_23 : decode cX10_over 23 = .ok (.ifCond .ne 7, 3) := by decide +kernel
theorem dX10_over_26 : decode cX10_over 26 = .ok (.ldc2_w 164, 3) := by decide +kernel
theorem dX10_over_29 : decode cX10_over 29 = .ok (.lreturn, 1) := by decide +kernel
theorem dX10_over_30 : decode cX10_over 30 = .ok (.iconst 0, 1) := by decide +kernel
theorem dX10_over_31 : decode cX10_over 31 = .ok (.istore 4, 2) := by decide +kernel
theorem dX10_over_33 : decode cX10_over 33 = .ok (.lconst 0, 1) := by decide +kernel
theorem dX10_over_34 : decode cX10_over 34 = .ok (.lstore 5, 2) := by decide +kernel
theorem dX10_over_36 : decode cX10_over 36 = .ok (.lconst 0, 1) := by decide +kernel
theorem dX10_over_37 : decode cX10_over 37 = .ok (.lstore 7, 2) := by decide +kernel
theorem dX10_over_39 : decode cX10_over 39 = .ok (.iconst 0, 1) := by decide +kernel
theorem dX10_over_40 : decode cX10_over 40 = .ok (.istore 9, 2) := by decide +kernel
theorem dX10_over_42 : decode cX10_over 42 = .ok (.iload 9, 2) := by decide +kernel
theorem dX10_over_44 : decode cX10_over 44 = .ok (.aload_n 0, 1) := by decide +kernel
theorem dX10_over_45 : decode cX10_over 45 = .ok (.getfield 117, 3) := by decide +kernel
theorem dX10_over_48 : decode cX10_over 48 = .ok (.if_icmp .gt 88, 3) := by decide +kernel
theorem dX10_over_51 : decode cX10_over 51 = .ok (.iconst 0, 1) := by decide +kernel
theorem dX10_over_52 : decode cX10_over 52 = .ok (.istore 10, 2) := by decide +kernel
theorem dX10_over_54 : decode cX10_over 54 = .ok (.iload 10, 2) := by decide +kernel
theorem dX10_over_56 : decode cX10_over 56 = .ok (.iconst 2, 1) := by decide +kernel
theorem dX10_over_57 : decode cX10_over 57 = .ok (.if_icmp .ge 73, 3) := by decide +kernel
theorem dX10_over_60 : decode cX10_over 60 = .ok (.aload_n 0, 1) := by decide +kernel
theorem dX10_over_61 : decode cX10_over 61 = .ok (.iload 9, 2) := by decide +kernel
theorem dX10_over_63 : decode cX10_over 63 = .ok (.iload 10, 2) := by decide +kernel
theorem dX10_over_65 : decode cX10_over 65 = .ok (.iload_n 1, 1) := by decide +kernel
theorem dX10_over_66 : decode cX10_over 66 = .ok (.iload_n 2, 1) := by decide +kernel
theorem dX10_over_67 : decode cX10_over 67 = .ok (.invokevirtual 166, 3) := by decide +kernel
theorem dX10_over_70 : decode cX10_over 70 = .ok (.ifCond .eq 54, 3) := by decide +kernel
theorem dX10_over_73 : decode cX10_over 73 = .ok (.aload_n 0, 1) := by decide +kernel
theorem dX10_over_74 : decode cX10_over 74 = .ok (.getfield 44, 3) := by decide +kernel
theorem dX10_over_77 : decode cX10_over 77 = .ok (.iload 9, 2) := by decide +kernel
theorem dX10_over_79 : decode cX10_over 79 = .ok (.iload 10, 2) := by decide +kernel
theorem dX10_over_81 : decode cX10_over 81 = .ok (.iload_n 2, 1) := by decide +kernel
theorem dX10_over_82 : decode cX10_over 82 = .ok (.invokestatic 120, 3) := by decide +kernel
theorem dX10_over_85 : decode cX10_over 85 = .ok (.iaload, 1) := by decide +kernel
theorem dX10_over_86 : decode cX10_over 86 = .ok (.i2l, 1) := by decide +kernel
theorem dX10_over_87 : decode cX10_over 87 = .ok (.lstore 11, 2) := by decide +kernel
theorem dX10_over_89 : decode cX10_over 89 = .ok (.iinc 4 1, 3) := by decide +kernel
theorem dX10_over_92 : decode cX10_over 92 = .ok (.lload 5, 2) := by decide +kernel
theorem dX10_over_94 : decode cX10_over 94 = .ok (.aload_n 0, 1) := by decide +kernel
theorem dX10_over_95 : decode cX10_over 95 = .ok (.getfield 38, 3) := by decide +kernel
theorem dX10_over_98 : decode cX10_over 98 = .ok (.iload 9, 2) := by decide +kernel
theorem dX10_over_100 : decode cX10_over 100 = .ok (.iload 10, 2) := by decide +kernel
theorem dX10_over_102 : decode cX10_over 102 = .ok (.iload_n 2, 1) := by decide +kernel
theorem dX10_over_103 : decode cX10_over 103 = .ok (.invokestatic 120, 3) := by decide +kernel
theorem dX10_over_106 : decode cX10_over 106 = .ok (.iaload, 1) := by decide +kernel
theorem dX10_over_107 : decode cX10_over 107 = .ok (.i2l, 1) := by decide +kernel
theorem dX10_over_108 : decode cX10_over 108 = .ok (.lload 11, 2) := by decide +kernel
theorem dX10_over_110 : decode cX10_over 110 = .ok (.lmul, 1) := by decide +kernel
theorem dX10_over_111 : decode cX10_over 111 = .ok (.ladd, 1) := by decide +kernel
theorem dX10_over_112 : decode cX10_over 112 = .ok (.lstore 5, 2) := by decide +kernel
theorem dX10_over_114 : decode cX10_over 114 = .ok (.lload 7, 2) := by decide +kernel
theorem dX10_over_116 : decode cX10_over 116 = .ok (.lload 11, 2) := by decide +kernel
theorem dX10_over_118 : decode cX10_over 118 = .ok (.lload 11, 2) := by decide +kernel
theorem dX10_over_120 : decode cX10_over 120 = .ok (.lmul, 1) := by decide +kernel
theorem dX10_over_121 : decode cX10_over 121 = .ok (.ladd, 1) := by decide +kernel
theorem dX10_over_122 : decode cX10_over 122 = .ok (.lstore 7, 2) := by decide +kernel
theorem dX10_over_124 : decode cX10_over 124 = .ok (.iinc 10 1, 3) := by decide +kernel
theorem dX10_over_127 : decode cX10_over 127 = .ok (.goto (-73), 3) := by decide +kernel
theorem dX10_over_130 : decode cX10_over 130 = .ok (.iinc 9 1, 3) := by decide +kernel
theorem dX10_over_133 : decode cX10_over 133 = .ok (.goto (-91), 3) := by decide +kernel
theorem dX10_over_136 : decode cX10_over 136 = .ok (.iload 4, 2) := by decide +kernel
theorem dX10_over_138 : decode cX10_over 138 = .ok (.iconst 3, 1) := by decide +kernel
theorem dX10_over_139 : decode cX10_over 139 = .ok (.if_icmp .ge 9, 3) := by decide +kernel
theorem dX10_over_142 : decode cX10_over 142 = .ok (.ldc2_w 170, 3) := by decide +kernel
theorem dX10_over_145 : decode cX10_over 145 = .ok (.goto 22, 3) := by decide +kernel
theorem dX10_over_148 : decode cX10_over 148 = .ok (.iload_n 3, 1) := by decide +kernel
theorem dX10_over_149 : decode cX10_over 149 = .ok (.ifCond .ne 8, 3) := by decide +kernel
theorem dX10_over_152 : decode cX10_over 152 = .ok (.lload 5, 2) := by decide +kernel
theorem dX10_over_154 : decode cX10_over 154 = .ok (.goto 5, 3) := by decide +kernel
theorem dX10_over_157 : decode cX10_over 157 = .ok (.lload 7, 2) := by decide +kernel
theorem dX10_over_159 : decode cX10_over 159 = .ok (.lload 5, 2) := by decide +kernel
