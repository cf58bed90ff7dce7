theorem dX9_recipe_38 : decode cX9_recipe 38 = .ok (.aload_n 0, 1) := by decide +kernel
theorem dX9_recipe_39 : decode cX9_recipe 39 = .ok (.dup, 1) := by decide +kernel
theorem dX9_recipe_40 : decode cX9_recipe 40 = .ok (.getfield 25, 3) := by decide +kernel
theorem dX9_recipe_43 : decode cX9_recipe 43 = .ok (.iconst 1, 1) := by decide +kernel
theorem dX9_recipe_44 : decode cX9_recipe 44 = .ok (.iadd, 1) := by decide +kernel
theorem dX9_recipe_45 : decode cX9_recipe 45 = .ok (.putfield 25, 3) := by decide +kernel
theorem dX9_recipe_48 : decode cX9_recipe 48 = .ok (.aload_n 0, 1) := by decide +kernel
theorem dX9_recipe_49 : decode cX9_recipe 49 = .ok (.getfield 25, 3) := by decide +kernel
theorem dX9_recipe_52 : decode cX9_recipe 52 = .ok (.iconst 1, 1) := by decide +kernel
theorem dX9_recipe_53 : decode cX9_recipe 53 = .ok (.isub, 1) := by decide +kernel
theorem dX9_recipe_54 : decode cX9_recipe 54 = .ok (.ireturn, 1) := by decide +kernel
set_option maxRecDepth 20000 in
theorem ggX9_part_X9_isRecipe : GoodIn wsX9_part wsX9_isRecipe := goodIn_r _ [8, 9, 10, 11, 7, 12, 25, 26, 27, 28, 29, 30, 31, 32, 33, 34, 35, 36, 37, 38] (by decide +kernel) (by decide +kernel)
set_option maxRecDepth 20000 in
theorem gX9_part_X9_isRecipe : GoodIn wsX9_part (wsV RX9 109 RX9 yX9_isRecipe wsX9_isRecipe) := goodIn_app (goodIn_of _ (by decide +kernel)) ggX9_part_X9_isRecipe
set_option maxRecDepth 20000 in
theorem ggX9_part_X9_isKind : GoodIn wsX9_part wsX9_isKind := goodIn_r _ [16, 17, 10, 11, 7, 12, 25, 26, 27, 28, 29, 30, 31, 32, 33, 34, 35, 36, 37, 38] (by decide +kernel) (by decide +kernel)
set_option maxRecDepth 20000 in
theorem gX9_part_X9_isKind : GoodIn wsX9_part (wsV RX9 113 RX9 yX9_isKind wsX9_isKind) := goodIn_app (goodIn_of _ (by decide +kernel)) ggX9_part_X9_isKind
set_option maxRecDepth 20000 in
theorem ggX9_part_X9_isIn : GoodIn wsX9_part wsX9_isIn := goodIn_r _ [12] (by decide +kernel) (by decide +kernel)
set_option maxRecDepth 20000 in
theorem gX9_part_X9_isIn : GoodIn wsX9_part (va_wsS RX9 93 yX9_isIn wsX9_isIn) := goodIn_app (goodIn_of _ (by decide +kernel)) ggX9_part_X9_isIn
set_option maxRecDepth 20000 in
theorem ggX9_part_X6_putParts : GoodIn wsX9_part wsX6_putParts := goodIn_r _ [22, 23, 24, 39, 40, 41, 42] (by decide +kernel) (by decide +kernel)
set_option maxRecDepth 20000 in
theorem gX9_part_X6_putParts : GoodIn wsX9_part (wsV RX9 119 RX6 yX6_putParts wsX6_putParts) := goodIn_app (goodIn_of _ (by decide +kernel)) ggX9_part_X6_putParts
theorem dX9_part_0 : decode cX9_part 0 = .ok (.aload_n 0, 1) := by decide +kernel
theorem dX9_part_1 : decode cX9_part 1 = .ok (.iload_n 1, 1) := by decide +kernel
theorem dX9_part_2 : decode cX9_part 2 = .ok (.invokevirtual 109, 3) := by decide +kernel
theorem dX9_part_5 : decode cX9_part 5 = .ok (.ifCond .eq 21, 3) := by decide +kernel
theorem dX9_part_8 : decode cX9_part 8 = .ok (.aload_n 0, 1) := by decide +kernel
theorem dX9_part_9 : decode cX9_part 9 = .ok (.iload_n 2, 1) := by decide +kernel
theorem dX9_part_10 : decode cX9_part 10 = .ok (.invokevirtual 113, 3) := by decide +kernel
theorem dX9_part_13 : decode cX9_part 13 = .ok (.ifCond .eq 13, 3) := by decide +kernel
theorem dX9_part_16 : decode cX9_part 16 = .ok (.iload_n 3, 1) := by decide +kernel
theorem dX9_part_17 : decode cX9_part 17 = .ok (.iconst 0, 1) := by decide +kernel
theorem dX9_part_18 : decode cX9_part 18 = .ok (.bipush 20, 2) := by decide +kernel
theorem dX9_part_20 : decode cX9_part 20 = .ok (.invokestatic 93, 3) := by decide +kernel
theorem dX9_part_23 : decode cX9_part 23 = .ok (.ifCond .ne 5, 3) := by decide +kernel
theorem dX9_part_26 : decode cX9_part 26 = .ok (.iconst (-1), 1) := by decide +kernel
theorem dX9_part_27 : decode cX9_part 27 = .ok (.ireturn, 1) := by decide +kernel
theorem dX9_part_28 : decode cX9_part 28 = .ok (.aload_n 0, 1) := by decide +kernel
theorem dX9_part_29 : decode cX9_part 29 = .ok (.getfield 21, 3) := by decide +kernel
theorem dX9_part_32 : decode cX9_part 32 = .ok (.iload_n 1, 1) := by decide +kernel
theorem dX9_part_33 : decode cX9_part 33 = .ok (.aaload, 1) := by decide +kernel
theorem dX9_part_34 : decode cX9_part 34 = .ok (.getfield 116, 3) := by decide +kernel
theorem dX9_part_37 : decode cX9_part 37 = .ok (.aload_n 0, 1) := by decide +kernel
theorem dX9_part_38 : decode cX9_part 38 = .ok (.getfield 46, 3) := by decide +kernel
theorem dX9_part_41 : decode cX9_part 41 = .ok (.if_icmp .ne 6, 3) := by decide +kernel
theorem dX9_part_44 : decode cX9_part 44 = .ok (.bipush (-2), 2) := by decide +kernel
theorem dX9_part_46 : decode cX9_part 46 = .ok (.ireturn, 1) := by decide +kernel
theorem dX9_part_47 : decode cX9_part 47 = .ok (.aload_n 0, 1) := by decide +kernel
theorem dX9_part_48 : decode cX9_part 48 = .ok (.getfield 21, 3) := by decide +kernel
theorem dX9_part_51 : decode cX9_part 51 = .ok (.iload_n 1, 1) := by decide +kernel
theorem dX9_part_52 : decode cX9_part 52 = .ok (.aaload, 1) := by decide +kernel
theorem dX9_part_53 : decode cX9_part 53 = .ok (.iload_n 2, 1) := by decide +kernel
theorem dX9_part_54 : decode cX9_part 54 = .ok (.iload_n 3, 1) := by decide +kernel
theorem dX9_part_55 : decode cX9_part 55 = .ok (.invokevirtual 119, 3) := by decide +kernel
theorem dX9_part_58 : decode cX9_part 58 = .ok (.ireturn, 1) := by decide +kernel
set_option maxRecDepth 20000 in
theorem ggX9_rule_X9_isIn : GoodIn wsX9_rule wsX9_isIn := goodIn_r _ [6] (by decide +kernel) (by decide +kernel)
set_option maxRecDepth 20000 in
theorem gX9_rule_X9_isIn : GoodIn wsX9_rule (va_wsS RX9 93 yX9_isIn wsX9_isIn) := goodIn_app (goodIn_of _ (by decide +kernel)) ggX9_rule_X9_isIn
theorem dX9_rule_0 : decode cX9_rule 0 = .ok (.iload_n 1, 1) := by decide +kernel
theorem dX9_rule_1 : decode cX9_rule 1 = .ok (.iconst 0, 1) := by decide +kernel
theorem dX9_rule_2 : decode cX9_rule 2 = .ok (.aload_n 0, 1) := by decide +kernel
theorem dX9_rule_3 : decode cX9_rule 3 = .ok (.getfield 37, 3) := by decide +kernel
theorem dX9_rule_6 : decode cX9_rule 6 = .ok (.arraylength, 1) := by decide +kernel
theorem dX9_rule_7 : decode cX9_rule 7 = .ok (.iconst 1, 1) := by decide +kernel
theorem dX9_rule_8 : decode cX9_rule 8 = .ok (.isub, 1) := by decide +kernel
theorem dX9_rule_9 : decode cX9_rule 9 = .ok (.invokestatic 93, 3) := by decide +kernel
theorem dX9_rule_12 : decode cX9_rule 12 = .ok (.ifCond .eq 16, 3) := by decide +kernel
theorem dX9_rule_15 : decode cX9_rule 15 = .ok (.iload_n 2, 1) := by decide +kernel
theorem dX9_rule_16 : decode cX9_rule 16 = .ok (.iconst 0, 1) := by decide +kernel
theorem dX9_rule_17 : decode cX9_rule 17 = .ok (.getstatic 123, 3) := by decide +kernel
theorem dX9_rule_20 : decode cX9_rule 20 = .ok (.iload_n 1, 1) := by decide +kernel
theorem dX9_rule_21 : decode cX9_rule 21 = .ok (.iaload, 1) := by decide +kernel
theorem dX9_rule_22 : decode cX9_rule 22 = .ok (.invokestatic 93, 3) := by decide +kernel
theorem dX9_rule_25 : decode cX9_rule 25 = .ok (.ifCond .ne 5, 3) := by decide +kernel
theorem dX9_rule_28 : decode cX9_rule 28 = .ok (.iconst (-1), 1) := by decide +kernel
theorem dX9_rule_29 : decode cX9_rule 29 = .ok (.ireturn, 1) := by decide +kernel
theorem dX9_rule_30 : decode cX9_rule 30 = .ok (.aload_n 0, 1) := by decide +kernel
theorem dX9_rule_31 : decode cX9_rule 31 = .ok (.getfield 37, 3) := by decide +kernel
theorem dX9_rule_34 : decode cX9_rule 34 = .ok (.iload_n 1, 1) := by decide +kernel
theorem dX9_rule_35 : decode cX9_rule 35 = .ok (.iaload, 1) := by decide +kernel
theorem dX9_rule_36 : decode cX9_rule 36 = .ok (.istore_n 3, 1) := by decide +kernel
theorem dX9_rule_37 : decode cX9_rule 37 = .ok (.aload_n 0, 1) := by decide +kernel
theorem dX9_rule_38 : decode cX9_rule 38 = .ok (.getfield 37, 3) := by decide +kernel
theorem dX9_rule_41 : decode cX9_rule 41 = .ok (.iload_n 1, 1) := by decide +kernel
theorem dX9_rule_42 : decode cX9_rule 42 = .ok (.iload_n 2, 1) := by decide +kernel
theorem dX9_rule_43 : decode cX9_rule 43 = .ok (.iastore, 1) := by decide +kernel
theorem dX9_rule_44 : decode cX9_rule 44 = .ok (.iload_n 3, 1) := by decide +kernel
theorem dX9_rule_45 : decode cX9_rule 45 = .ok (.ireturn, 1) := by decide +kernel
set_option maxRecDepth 20000 in
theorem ggX9_receive_X9_isKind : GoodIn wsX9_receive wsX9_isKind := goodIn_r _ [7, 8, 9, 10, 6, 11, 64, 65, 66, 67, 68, 69, 70, 71, 72, 73, 74, 75, 76, 77] (by decide +kernel) (by decide +kernel)
set_option maxRecDepth 20000 in
theorem gX9_receive_X9_isKind : GoodIn wsX9_receive (wsV RX9 113 RX9 yX9_isKind wsX9_isKind) := goodIn_app (goodIn_of _ (by decide +kernel)) ggX9_receive_X9_isKind
set_option maxRecDepth 20000 in
theorem ggX9_receive_X9_isIn : GoodIn wsX9_receive wsX9_isIn := goodIn_r _ [11] (by decide +kernel) (by decide +kernel)
set_option maxRecDepth 20000 in
theorem gX9_receive_X9_isIn : GoodIn wsX9_receive (va_wsS RX9 93 yX9_isIn wsX9_isIn) := goodIn_app (goodIn_of _ (by decide +kernel)) ggX9_receive_X9_isIn
set_option maxRecDepth 20000 in
theorem ggX9_receive_X9_carryOut : GoodIn wsX9_receive wsX9_carryOut := goodIn_r _ [15, 16, 17, 18, 19, 20, 21, 22, 23, 24, 25, 26, 27, 28, 29, 30, 31, 32, 33, 34, 35, 36, 6, 37, 38, 39, 40, 1, 41, 42, 43, 44, 45, 46, 47, 48, 49, 50, 8, 51, 52, 53, 54, 55, 56, 57, 58, 59, 60, 61, 62, 63, 64, 65, 66, 67, 68, 69, 70, 71, 72, 73, 74, 75, 76, 77, 85, 86, 87, 88, 89, 90, 91, 92, 93, 94, 95, 96, 97, 98, 99, 100, 101, 78, 79, 80, 81, 82, 83, 84] (by decide +kernel) (by decide +kernel)
set_option maxRecDepth 20000 in
theorem gX9_receive_X9_carryOut : GoodIn wsX9_receive (wsV RX9 129 RX9 yX9_carryOut wsX9_carryOut) := goodIn_app (goodIn_of _ (by decide +kernel)) ggX9_receive_X9_carryOut
theorem dX9_receive_0 : decode cX9_receive 0 = .ok (.aload_n 0, 1) := by decide +kernel
theorem dX9_receive_1 : decode cX9_receive 1 = .ok (.iload_n 1, 1) := by decide +kernel
theorem dX9_receive_2 : decode cX9_receive 2 = .ok (.invokevirtual 113, 3) := by decide +kernel
theorem dX9_receive_5 : decode cX9_receive 5 = .ok (.ifCond .eq 13, 3) := by decide +kernel
theorem dX9_receive_8 : decode cX9_receive 8 = .ok (.iload_n 2, 1) := by decide +kernel
theorem dX9_receive_9 : decode cX9_receive 9 = .ok (.iconst 1, 1) := by decide +kernel
theorem dX9_receive_10 : decode cX9_receive 10 = .ok (.bipush 100, 2) := by decide +kernel
theorem dX9_receive_12 : decode cX9_receive 12 = .ok (.invokestatic 93, 3) := by decide +kernel
theorem dX9_receive_15 : decode cX9_receive 15 = .ok (.ifCond .ne 5, 3) := by decide +kernel
theorem dX9_receive_18 : decode cX9_receive 18 = .ok (.iconst (-1), 1) := by decide +kernel
theorem dX9_receive_19 : decode cX9_receive 19 = .ok (.ireturn, 1) := by decide +kernel
theorem dX9_receive_20 : decode cX9_receive 20 = .ok (.aload_n 0, 1) := by decide +kernel
theorem dX9_receive_21 : decode cX9_receive 21 = .ok (.getfield 11, 3) := by decide +kernel
theorem dX9_receive_24 : decode cX9_receive 24 = .ok (.iload_n 1, 1) := by decide +kernel
theorem dX9_receive_25 : decode cX9_receive 25 = .ok (.aaload, 1) := by decide +kernel
theorem dX9_receive_26 : decode cX9_receive 26 = .ok (.getfield 126, 3) := by decide +kernel
theorem dX9_receive_29 : decode cX9_receive 29 = .ok (.iload_n 2, 1) := by decide +kernel
theorem dX9_receive_30 : decode cX9_receive 30 = .ok (.iadd, 1) := by decide +kernel
theorem dX9_receive_31 : decode cX9_receive 31 = .ok (.sipush 1000, 3) := by decide +kernel
theorem dX9_receive_34 : decode cX9_receive 34 = .ok (.if_icmp .le 6, 3) := by decide +kernel
theorem dX9_receive_37 : decode cX9_receive 37 = .ok (.bipush (-3), 2) := by decide +kernel
theorem dX9_receive_39 : decode cX9_receive 39 = .ok (.ireturn, 1) := by decide +kernel
theorem dX9_receive_40 : decode cX9_receive 40 = .ok (.aload_n 0, 1) := by decide +kernel
theorem dX9_receive_41 : decode cX9_receive 41 = .ok (.iconst 0, 1) := by decide +kernel
theorem dX9_receive_42 : decode cX9_receive 42 = .ok (.iconst 0, 1) := by decide +kernel
theorem dX9_receive_43 : decode cX9_receive 43 = .ok (.iload_n 1, 1) := by decide +kernel
theorem dX9_receive_44 : decode cX9_receive 44 = .ok (.iload_n 2, 1) := by decide +kernel
theorem dX9_receive_45 : decode cX9_receive 45 = .ok (.iconst 0, 1) := by decide +kernel
theorem dX9_receive_46 : decode cX9_receive 46 = .ok (.invokevirtual 129, 3) := by decide +kernel
theorem dX9_receive_49 : decode cX9_receive 49 = .ok (.aload_n 0, 1) := by decide +kernel
theorem dX9_receive_50 : decode cX9_receive 50 = .ok (.getfield 11, 3) := by decide +kernel
theorem dX9_receive_53 : decode cX9_receive 53 = .ok (.iload_n 1, 1) := by decide +kernel
theorem dX9_receive_54 : decode cX9_receive 54 = .ok (.aaload, 1) := by decide +kernel
theorem dX9_receive_55 : decode cX9_receive 55 = .ok (.getfield 126, 3) := by decide +kernel
theorem dX9_receive_58 : decode cX9_receive 58 = .ok (.ireturn, 1) := by decide +kernel
set_option maxRecDepth 20000 in
theorem ggX9_issue_X9_isBar : GoodIn wsX9_issue wsX9_isBar := goodIn_r _ [9, 10, 11, 8, 12] (by decide +kernel) (by decide +kernel)
set_option maxRecDepth 20000 in
theorem gX9_issue_X9_isBar : GoodIn wsX9_issue (va_wsS RX9 133 yX9_isBar wsX9_isBar) := goodIn_app (goodIn_of _ (by decide +kernel)) ggX9_issue_X9_isBar
set_option maxRecDepth 20000 in
theorem ggX9_issue_X9_isKind : GoodIn wsX9_issue wsX9_isKind := goodIn_r _ [16, 17, 10, 11, 8, 12, 70, 71, 72, 73, 74, 75, 76, 77, 78, 79, 80, 81, 82, 83] (by decide +kernel) (by decide +kernel)
set_option maxRecDepth 20000 in
theorem gX9_issue_X9_isKind : GoodIn wsX9_issue (wsV RX9 113 RX9 yX9_isKind wsX9_isKind) := goodIn_app (goodIn_of _ (by decide +kernel)) ggX9_issue_X9_isKind
set_option maxRecDepth 20000 in
theorem ggX9_issue_X9_isIn : GoodIn wsX9_issue wsX9_isIn := goodIn_r _ [12] (by decide +kernel) (by decide +kernel)
set_option maxRecDepth 20000 in
theorem gX9_issue_X9_isIn : GoodIn wsX9_issue (va_wsS RX9 93 yX9_isIn wsX9_isIn) := goodIn_app (goodIn_of _ (by decide +kernel)) ggX9_issue_X9_isIn
set_option maxRecDepth 20000 in
theorem ggX9_issue_X9_carryOut : GoodIn wsX9_issue wsX9_carryOut := goodIn_r _ [21, 22, 23, 24, 25, 26, 27, 28, 29, 30, 31, 32, 33, 34, 35, 36, 37, 38, 39, 40, 41, 42, 8, 43, 44, 45, 46, 2, 47, 48, 49, 50, 51, 52, 53, 54, 55, 56, 17, 57, 58, 59, 60, 61, 62, 63, 64, 65, 66, 67, 68, 69, 70, 71, 72, 73, 74, 75, 76, 77, 78, 79, 80, 81, 82, 83, 91, 92, 93, 94, 95, 96, 97, 98, 99, 100, 101, 102, 103, 104, 105, 106, 107, 84, 85, 86, 87, 88, 89, 90] (by decide +kernel) (by decide +kernel)
set_option maxRecDepth 20000 in
theorem gX9_issue_X9_carryOut : GoodIn wsX9_issue (wsV RX9 129 RX9 yX9_carryOut wsX9_carryOut) := goodIn_app (goodIn_of _ (by decide +kernel)) ggX9_issue_X9_carryOut
theorem dX9_issue_0 : decode cX9_issue 0 = .ok (.iload_n 1, 1) := by decide +kernel
theorem dX9_issue_1 : decode cX9_issue 1 = .ok (.invokestatic 133, 3) := by decide +kernel
theorem dX9_issue_4 : decode cX9_issue 4 = .ok (.ifCond .eq 21, 3) := by decide +kernel
theorem dX9_issue_7 : decode cX9_issue 7 = .ok (.aload_n 0, 1) := by decide +kernel
theorem dX9_issue_8 : decode cX9_issue 8 = .ok (.iload_n 2, 1) := by decide +kernel
theorem dX9_issue_9 : decode cX9_issue 9 = .ok (.invokevirtual 113, 3) := by decide +kernel
theorem dX9_issue_12 : decode cX9_issue 12 = .ok (.ifCond .eq 13, 3) := by decide +kernel
theorem dX9_issue_15 : decode cX9_issue 15 = .ok (.iload_n 3, 1) := by decide +kernel
theorem dX9_issue_16 : decode cX9_issue 16 = .ok (.iconst 1, 1) := by decide +kernel
theorem dX9_issue_17 : decode cX9_issue 17 = .ok (.bipush 100, 2) := by decide +kernel
theorem dX9_issue_19 : decode cX9_issue 19 = .ok (.invokestatic 93, 3) := by decide +kernel
theorem dX9_issue_22 : decode cX9_issue 22 = .ok (.ifCond .ne 6, 3) := by decide +kernel
theorem dX9_issue_25 : decode cX9_issue 25 = .ok (.ldc 136, 2) := by decide +kernel
theorem dX9_issue_27 : decode cX9_issue 27 = .ok (.ireturn, 1) := by decide +kernel
theorem dX9_issue_28 : decode cX9_issue 28 = .ok (.aload_n 0, 1) := by decide +kernel
theorem dX9_issue_29 : decode cX9_issue 29 = .ok (.getfield 11, 3) := by decide +kernel
theorem dX9_issue_32 : decode cX9_issue 32 = .ok (.iload_n 2, 1) := by decide +kernel
theorem dX9_issue_33 : decode cX9_issue 33 = .ok (.aaload, 1) := by decide +kernel
theorem dX9_issue_34 : decode cX9_issue 34 = .ok (.getfield 126, 3) := by decide +kernel
theorem dX9_issue_37 : decode cX9_issue 37 = .ok (.iload_n 3, 1) := by decide +kernel
theorem dX9_issue_38 : decode cX9_issue 38 = .ok (.if_icmp .ge 6, 3) := by decide +kernel
theorem dX9_issue_41 : decode cX9_issue 41 = .ok (.ldc 137, 2) := by decide +kernel
theorem dX9_issue_43 : decode cX9_issue 43 = .ok (.ireturn, 1) := by decide +kernel
theorem dX9_issue_44 : decode cX9_issue 44 = .ok (.aload_n 0, 1) := by decide +kernel
theorem dX9_issue_45 : decode cX9_issue 45 = .ok (.iconst 1, 1) := by decide +kernel
theorem dX9_issue_46 : decode cX9_issue 46 = .ok (.iload_n 1, 1) := by decide +kernel
theorem dX9_issue_47 : decode cX9_issue 47 = .ok (.iload_n 2, 1) := by decide +kernel
theorem dX9_issue_48 : decode cX9_issue 48 = .ok (.iload_n 3, 1) := by decide +kernel
theorem dX9_issue_49 : decode cX9_issue 49 = .ok (.iconst 0, 1) := by decide +kernel
theorem dX9_issue_50 : decode cX9_issue 50 = .ok (.invokevirtual 129, 3) := by decide +kernel
theorem dX9_issue_53 : decode cX9_issue 53 = .ok (.aload_n 0, 1) := by decide +kernel
theorem dX9_issue_54 : decode cX9_issue 54 = .ok (.getfield 11, 3) := by decide +kernel
theorem dX9_issue_57 : decode cX9_issue 57 = .ok (.iload_n 2, 1) := by decide +kernel
theorem dX9_issue_58 : decode cX9_issue 58 = .ok (.aaload, 1) := by decide +kernel
theorem dX9_issue_59 : decode cX9_issue 59 = .ok (.getfield 138, 3) := by decide +kernel
theorem dX9_issue_62 : decode cX9_issue 62 = .ok (.iload_n 1, 1) := by decide +kernel
theorem dX9_issue_63 : decode cX9_issue 63 = .ok (.iaload, 1) := by decide +kernel
theorem dX9_issue_64 : decode cX9_issue 64 = .ok (.ireturn, 1) := by decide +kernel
set_option maxRecDepth 20000 in
theorem ggX9_lend_X9_isBar : GoodIn wsX9_lend wsX9_isBar := goodIn_r _ [8, 9, 10, 7, 11] (by decide +kernel) (by decide +kernel)
set_option maxRecDepth 20000 in
theorem gX9_lend_X9_isBar : GoodIn wsX9_lend (va_wsS RX9 133 yX9_isBar wsX9_isBar) := goodIn_app (goodIn_of _ (by decide +kernel)) ggX9_lend_X9_isBar
set_option maxRecDepth 20000 in
theorem ggX9_lend_X9_isKind : GoodIn wsX9_lend wsX9_isKind := goodIn_r _ [15, 16, 9, 10, 7, 11, 69, 70, 71, 72, 73, 74, 75, 76, 77, 78, 79, 80, 81, 82] (by decide +kernel) (by decide +kernel)
set_option maxRecDepth 20000 in
theorem gX9_lend_X9_isKind : GoodIn wsX9_lend (wsV RX9 113 RX9 yX9_isKind wsX9_isKind) := goodIn_app (goodIn_of _ (by decide +kernel)) ggX9_lend_X9_isKind
set_option maxRecDepth 20000 in
theorem ggX9_lend_X9_isIn : GoodIn wsX9_lend wsX9_isIn := goodIn_r _ [11] (by decide +kernel) (by decide +kernel)
set_option maxRecDepth 20000 in
theorem gX9_lend_X9_isIn : GoodIn wsX9_lend (va_wsS RX9 93 yX9_isIn wsX9_isIn) := goodIn_app (goodIn_of _ (by decide +kernel)) ggX9_lend_X9_isIn
set_option maxRecDepth 20000 in
theorem ggX9_lend_X9_carryOut : GoodIn wsX9_lend wsX9_carryOut := goodIn_r _ [20, 21, 22, 23, 24, 25, 26, 27, 28, 29, 30, 31, 32, 33, 34, 35, 36, 37, 38, 39, 40, 41, 7, 42, 43, 44, 45, 2, 46, 47, 48, 49, 50, 51, 52, 53, 54, 55, 16, 56, 57, 58, 59, 60, 61, 62, 63, 64, 65, 66, 67, 68, 69, 70, 71, 72, 73, 74, 75, 76, 77, 78, 79, 80, 81, 82, 90, 91, 92, 93, 94, 95, 96, 97, 98, 99, 100, 101, 102, 103, 104, 105, 106, 83, 84, 85, 86, 87, 88, 89] (by decide +kernel) (by decide +kernel)
set_option maxRecDepth 20000 in
theorem gX9_lend_X9_carryOut : GoodIn wsX9_lend (wsV RX9 129 RX9 yX9_carryOut wsX9_carryOut) := goodIn_app (goodIn_of _ (by decide +kernel)) ggX9_lend_X9_carryOut
theorem dX9_lend_0 : decode cX9_lend 0 = .ok (.iload_n 1, 1) := by decide +kernel
theorem dX9_lend_1 : decode cX9_lend 1 = .ok (.invokestatic 133, 3) := by decide +kernel
theorem dX9_lend_4 : decode cX9_lend 4 = .ok (.ifCond .eq 22, 3) := by decide +kernel
theorem dX9_lend_7 : decode cX9_lend 7 = .ok (.aload_n 0, 1) := by decide +kernel
theorem dX9_lend_8 : decode cX9_lend 8 = .ok (.iload_n 2, 1) := by decide +kernel
theorem dX9_lend_9 : decode cX9_lend 9 = .ok (.invokevirtual 113, 3) := by decide +kernel
theorem dX9_lend_12 : decode cX9_lend 12 = .ok (.ifCond .eq 14, 3) := by decide +kernel
theorem dX9_lend_15 : decode cX9_lend 15 = .ok (.iload_n 3, 1) := by decide +kernel
theorem dX9_lend_16 : decode cX9_lend 16 = .ok (.iconst 1, 1) := by decide +kernel
theorem dX9_lend_17 : decode cX9_lend 17 = .ok (.sipush 10000, 3) := by decide +kernel
theorem dX9_lend_20 : decode cX9_lend 20 = .ok (.invokestatic 93, 3) := by decide +kernel
theorem dX9_lend_23 : decode cX9_lend 23 = .ok (.ifCond .ne 6, 3) := by decide +kernel
theorem dX9_lend_26 : decode cX9_lend 26 = .ok (.ldc 136, 2) := by decide +kernel
theorem dX9_lend_28 : decode cX9_lend 28 = .ok (.ireturn, 1) := by decide +kernel
theorem dX9_lend_29 : decode cX9_lend 29 = .ok (.aload_n 0, 1) := by decide +kernel
theorem dX9_lend_30 : decode cX9_lend 30 = .ok (.getfield 11, 3) := by decide +kernel
theorem dX9_lend_33 : decode cX9_lend 33 = .ok (.iload_n 2, 1) := by decide +kernel
theorem dX9_lend_34 : decode cX9_lend 34 = .ok (.aaload, 1) := by decide +kernel
theorem dX9_lend_35 : decode cX9_lend 35 = .ok (.getfield 138, 3) := by decide +kernel
theorem dX9_lend_38 : decode cX9_lend 38 = .ok (.iload_n 1, 1) := by decide +kernel
theorem dX9_lend_39 : decode cX9_lend 39 = .ok (.iaload, 1) := by decide +kernel
theorem dX9_lend_40 : decode cX9_lend 40 = .ok (.iload_n 3, 1) := by decide +kernel
theorem dX9_lend_41 : decode cX9_lend 41 = .ok (.if_icmp .ge 6, 3) := by decide +kernel
theorem dX9_lend_44 : decode cX9_lend 44 = .ok (.ldc 137, 2) := by decide +kernel
theorem dX9_lend_46 : decode cX9_lend 46 = .ok (.ireturn, 1) := by decide +kernel
theorem dX9_lend_47 : decode cX9_lend 47 = .ok (.aload_n 0, 1) := by decide +kernel
theorem dX9_lend_48 : decode cX9_lend 48 = .ok (.iconst 2, 1) := by decide +kernel
theorem dX9_lend_49 : decode cX9_lend 49 = .ok (.iload_n 1, 1) := by decide +kernel
theorem dX9_lend_50 : decode cX9_lend 50 = .ok (.iload_n 2, 1) := by decide +kernel
theorem dX9_lend_51 : decode cX9_lend 51 = .ok (.iload_n 3, 1) := by decide +kernel
theorem dX9_lend_52 : decode cX9_lend 52 = .ok (.iconst 0, 1) := by decide +kernel
theorem dX9_lend_53 : decode cX9_lend 53 = .ok (.invokevirtual 129, 3) := by decide +kernel
theorem dX9_lend_56 : decode cX9_lend 56 = .ok (.aload_n 0, 1) := by decide +kernel
theorem dX9_lend_57 : decode cX9_lend 57 = .ok (.getfield 11, 3) := by decide +kernel
theorem dX9_lend_60 : decode cX9_lend 60 = .ok (.iload_n 2, 1) := by decide +kernel
theorem dX9_lend_61 : decode cX9_lend 61 = .ok (.aaload, 1) := by decide +kernel
theorem dX9_lend_62 : decode cX9_lend 62 = .ok (.getfield 138, 3) := by decide +kernel
theorem dX9_lend_65 : decode cX9_lend 65 = .ok (.iconst 1, 1) := by decide +kernel
theorem dX9_lend_66 : decode cX9_lend 66 = .ok (.iload_n 1, 1) := by decide +kernel
theorem dX9_lend_67 : decode cX9_lend 67 = .ok (.isub, 1) := by decide +kernel
theorem dX9_lend_68 : decode cX9_lend 68 = .ok (.iaload, 1) := by decide +kernel
theorem dX9_lend_69 : decode cX9_lend 69 = .ok (.ireturn, 1) := by decide +kernel
set_option maxRecDepth 20000 in
theorem ggX9_sell_X9_isBar : GoodIn wsX9_sell wsX9_isBar := goodIn_r _ [7, 8, 9, 6, 10] (by decide +kernel) (by decide +kernel)
set_option maxRecDepth 20000 in
theorem gX9_sell_X9_isBar : GoodIn wsX9_sell (va_wsS RX9 133 yX9_isBar wsX9_isBar) := goodIn_app (goodIn_of _ (by decide +kernel)) ggX9_sell_X9_isBar
set_option maxRecDepth 20000 in
theorem ggX9_sell_X9_isRecipe : GoodIn wsX9_sell wsX9_isRecipe := goodIn_r _ [14, 15, 8, 9, 6, 10, 95, 96, 97, 98, 99, 100, 101, 102, 103, 104, 105, 106, 107, 108] (by decide +kernel) (by decide +kernel)
set_option maxRecDepth 20000 in
theorem gX9_sell_X9_isRecipe : GoodIn wsX9_sell (wsV RX9 109 RX9 yX9_isRecipe wsX9_isRecipe) := goodIn_app (goodIn_of _ (by decide +kernel)) ggX9_sell_X9_isRecipe
set_option maxRecDepth 20000 in
theorem ggX9_sell_X9_isIn : GoodIn wsX9_sell wsX9_isIn := goodIn_r _ [10] (by decide +kernel) (by decide +kernel)
set_option maxRecDepth 20000 in
theorem gX9_sell_X9_isIn : GoodIn wsX9_sell (va_wsS RX9 93 yX9_isIn wsX9_isIn) := goodIn_app (goodIn_of _ (by decide +kernel)) ggX9_sell_X9_isIn
set_option maxRecDepth 20000 in
theorem ggX9_sell_X9_isTime : GoodIn wsX9_sell wsX9_isTime := goodIn_r _ [18, 8, 9, 6, 10] (by decide +kernel) (by decide +kernel)
set_option maxRecDepth 20000 in
theorem gX9_sell_X9_isTime : GoodIn wsX9_sell (va_wsS RX9 141 yX9_isTime wsX9_isTime) := goodIn_app (goodIn_of _ (by decide +kernel)) ggX9_sell_X9_isTime
set_option maxRecDepth 20000 in
theorem ggX9_sell_X9_priceAt : GoodIn wsX9_sell wsX9_priceAt := goodIn_r _ [22, 1, 23, 24, 25, 26, 27, 28, 29, 30, 31, 32, 33, 34, 35, 36, 37, 38, 39, 40, 41, 42, 43, 95, 96, 97, 98, 99, 100, 101, 102, 103, 104, 105, 106, 107, 108, 109, 110, 111, 112, 113, 114, 115, 116] (by decide +kernel) (by decide +kernel)
set_option maxRecDepth 20000 in
theorem gX9_sell_X9_priceAt : GoodIn wsX9_sell (wsV RX9 145 RX9 yX9_priceAt wsX9_priceAt) := goodIn_app (goodIn_of _ (by decide +kernel)) ggX9_sell_X9_priceAt
set_option maxRecDepth 20000 in
theorem ggX9_sell_X9_carryOut : GoodIn wsX9_sell wsX9_carryOut := goodIn_r _ [47, 48, 49, 50, 51, 52, 53, 54, 55, 56, 57, 58, 59, 60, 61, 62, 63, 30, 64, 65, 66, 67, 6, 68, 2, 69, 70, 71, 72, 73, 74, 75, 76, 77, 78, 79, 80, 1, 81, 82, 83, 84, 85, 86, 87, 88, 89, 90, 91, 92, 93, 94, 95, 96, 97, 98, 99, 100, 101, 102, 103, 104, 105, 106, 107, 108, 117, 118, 119, 120, 121, 122, 123, 124, 125, 126, 127, 128, 129, 109, 110, 111, 112, 130, 131, 132, 133, 134, 135, 136] (by decide +kernel) (by decide +kernel)
set_option maxRecDepth 20000 in
theorem gX9_sell_X9_carryOut : GoodIn wsX9_sell (wsV RX9 129 RX9 yX9_carryOut wsX9_carryOut) := goodIn_app (goodIn_of _ (by decide +kernel)) ggX9_sell_X9_carryOut
theorem dX9_sell_0 : decode cX9_sell 0 = .ok (.iload_n 1, 1) := by decide +kernel
theorem dX9_sell_1 : decode cX9_sell 1 = .ok (.invokestatic 133, 3) := by decide +kernel
theorem dX9_sell_4 : decode cX9_sell 4 = .ok (.ifCond .eq 31, 3) := by decide +kernel
theorem dX9_sell_7 : decode cX9_sell 7 = .ok (.aload_n 0, 1) := by decide +kernel
theorem dX9_sell_8 : decode cX9_sell 8 = .ok (.iload_n 2, 1) := by decide +kernel
theorem dX9_sell_9 : decode cX9_sell 9 = .ok (.invokevirtual 109, 3) := by decide +kernel
theorem dX9_sell_12 : decode cX9_sell 12 = .ok (.ifCond .eq 23, 3) := by decide +kernel
theorem dX9_sell_15 : decode cX9_sell 15 = .ok (.iload_n 3, 1) := by decide +kernel
theorem dX9_sell_16 : decode cX9_sell 16 = .ok (.iconst 1, 1) := by decide +kernel
theorem dX9_sell_17 : decode cX9_sell 17 = .ok (.bipush 100, 2) := by decide +kernel
theorem dX9_sell_19 : decode cX9_sell 19 = .ok (.invokestatic 93, 3) := by decide +kernel
theorem dX9_sell_22 : decode cX9_sell 22 = .ok (.ifCond .eq 13, 3) := by decide +kernel
theorem dX9_sell_25 : decode cX9_sell 25 = .ok (.iload 4, 2) := by decide +kernel
theorem dX9_sell_27 : decode cX9_sell 27 = .ok (.iload 5, 2) := by decide +kernel
theorem dX9_sell_29 : decode cX9_sell 29 = .ok (.invokestatic 141, 3) := by decide +kernel
theorem dX9_sell_32 : decode cX9_sell 32 = .ok (.ifCond .ne 5, 3) := by decide +kernel
theorem dX9_sell_35 : decode cX9_sell 35 = .ok (.iconst (-1), 1) := by decide +kernel
theorem dX9_sell_36 : decode cX9_sell 36 = .ok (.ireturn, 1) := by decide +kernel
theorem dX9_sell_37 : decode cX9_sell 37 = .ok (.iload_n 3, 1) := by decide +kernel
theorem dX9_sell_38 : decode cX9_sell 38 = .ok (.aload_n 0, 1) := by decide +kernel
theorem dX9_sell_39 : decode cX9_sell 39 = .ok (.iload_n 2, 1) := by decide +kernel
theorem dX9_sell_40 : decode cX9_sell 40 = .ok (.iload 4, 2) := by decide +kernel
theorem dX9_sell_42 : decode cX9_sell 42 = .ok (.iload 5, 2) := by decide +kernel
theorem dX9_sell_44 : decode cX9_sell 44 = .ok (.invokevirtual 145, 3) := by decide +kernel
theorem dX9_sell_47 : decode cX9_sell 47 = .ok (.imul, 1) := by decide +kernel
theorem dX9_sell_48 : decode cX9_sell 48 = .ok (.istore 6, 2) := by decide +kernel
theorem dX9_sell_50 : decode cX9_sell 50 = .ok (.aload_n 0, 1) := by decide +kernel
theorem dX9_sell_51 : decode cX9_sell 51 = .ok (.getfield 21, 3) := by decide +kernel
theorem dX9_sell_54 : decode cX9_sell 54 = .ok (.iload_n 2, 1) := by decide +kernel
theorem dX9_sell_55 : decode cX9_sell 55 = .ok (.aaload, 1) := by decide +kernel
theorem dX9_sell_56 : decode cX9_sell 56 = .ok (.aload_n 0, 1) := by decide +kernel
theorem dX9_sell_57 : decode cX9_sell 57 = .ok (.getfield 46, 3) := by decide +kernel
theorem dX9_sell_60 : decode cX9_sell 60 = .ok (.putfield 116, 3) := by decide +kernel
theorem dX9_sell_63 : decode cX9_sell 63 = .ok (.aload_n 0, 1) := by decide +kernel
theorem dX9_sell_64 : decode cX9_sell 64 = .ok (.iconst 3, 1) := by decide +kernel
theorem dX9_sell_65 : decode cX9_sell 65 = .ok (.iload_n 1, 1) := by decide +kernel
theorem dX9_sell_66 : decode cX9_sell 66 = .ok (.iload_n 2, 1) := by decide +kernel
theorem dX9_sell_67 : decode cX9_sell 67 = .ok (.iload_n 3, 1) := by decide +kernel
theorem dX9_sell_68 : decode cX9_sell 68 = .ok (.iload 6, 2) := by decide +kernel
theorem dX9_sell_70 : decode cX9_sell 70 = .ok (.invokevirtual 129, 3) := by decide +kernel
theorem dX9_sell_73 : decode cX9_sell 73 = .ok (.iload 6, 2) := by decide +kernel
theorem dX9_sell_75 : decode cX9_sell 75 = .ok (.ireturn, 1) := by decide +kernel
set_option maxRecDepth 20000 in
theorem ggX9_lose_X9_isBar : GoodIn wsX9_lose wsX9_isBar := goodIn_r _ [7, 8, 9, 6, 10] (by decide +kernel) (by decide +kernel)
set_option maxRecDepth 20000 in
theorem gX9_lose_X9_isBar : GoodIn wsX9_lose (va_wsS RX9 133 yX9_isBar wsX9_isBar) := goodIn_app (goodIn_of _ (by decide +kernel)) ggX9_lose_X9_isBar
set_option maxRecDepth 20000 in
theorem ggX9_lose_X9_isKind : GoodIn wsX9_lose wsX9_isKind := goodIn_r _ [14, 15, 8, 9, 6, 10, 68, 69, 70, 71, 72, 73, 74, 75, 76, 77, 78, 79, 80, 81] (by decide +kernel) (by decide +kernel)
set_option maxRecDepth 20000 in
theorem gX9_lose_X9_isKind : GoodIn wsX9_lose (wsV RX9 113 RX9 yX9_isKind wsX9_isKind) := goodIn_app (goodIn_of _ (by decide +kernel)) ggX9_lose_X9_isKind
set_option maxRecDepth 20000 in
theorem ggX9_lose_X9_isIn : GoodIn wsX9_lose wsX9_isIn := goodIn_r _ [10] (by decide +kernel) (by decide +kernel)
set_option maxRecDepth 20000 in
theorem gX9_lose_X9_isIn : GoodIn wsX9_lose (va_wsS RX9 93 yX9_isIn wsX9_isIn) := goodIn_app (goodIn_of _ (by decide +kernel)) ggX9_lose_X9_isIn
set_option maxRecDepth 20000 in
theorem ggX9_lose_X9_carryOut : GoodIn wsX9_lose wsX9_carryOut := goodIn_r _ [19, 20, 21, 22, 23, 24, 25, 26, 27, 28, 29, 30, 31, 32, 33, 34, 35, 36, 37, 38, 39, 40, 6, 41, 42, 43, 44, 2, 45, 46, 47, 48, 49, 50, 51, 52, 53, 54, 15, 55, 56, 57, 58, 59, 60, 61, 62, 63, 64, 65, 66, 67, 68, 69, 70, 71, 72, 73, 74, 75, 76, 77, 78, 79, 80, 81, 89, 90, 91, 92, 93, 94, 95, 96, 97, 98, 99, 100, 101, 102, 103, 104, 105, 82, 83, 84, 85, 86, 87, 88] (by decide +kernel) (by decide +kernel)
set_option maxRecDepth 20000 in
theorem gX9_lose_X9_carryOut : GoodIn wsX9_lose (wsV RX9 129 RX9 yX9_carryOut wsX9_carryOut) := goodIn_app (goodIn_of _ (by decide +kernel)) ggX9_lose_X9_carryOut
theorem dX9_lose_0 : decode cX9_lose 0 = .ok (.iload_n 1, 1) := by decide +kernel
theorem dX9_lose_1 : decode cX9_lose 1 = .ok (.invokestatic 133, 3) := by decide +kernel
theorem dX9_lose_4 : decode cX9_lose 4 = .ok (.ifCond .eq 32, 3) := by decide +kernel
theorem dX9_lose_7 : decode cX9_lose 7 = .ok (.aload_n 0, 1) := by decide +kernel
theorem dX9_lose_8 : decode cX9_lose 8 = .ok (.iload_n 2, 1) := by decide +kernel
theorem dX9_lose_9 : decode cX9_lose 9 = .ok (.invokevirtual 113, 3) := by decide +kernel
theorem dX9_lose_12 : decode cX9_lose 12 = .ok (.ifCond .eq 24, 3) := by decide +kernel
theorem dX9_lose_15 : decode cX9_lose 15 = .ok (.iload_n 3, 1) := by decide +kernel
theorem dX9_lose_16 : decode cX9_lose 16 = .ok (.iconst 0, 1) := by decide +kernel
theorem dX9_lose_17 : decode cX9_lose 17 = .ok (.iconst 1, 1) := by decide +kernel
theorem dX9_lose_18 : decode cX9_lose 18 = .ok (.invokestatic 93, 3) := by decide +kernel
theorem dX9_lose_21 : decode cX9_lose 21 = .ok (.ifCond .eq 15, 3) := by decide +kernel
theorem dX9_lose_24 : decode cX9_lose 24 = .ok (.iload 4, 2) := by decide +kernel
theorem dX9_lose_26 : decode cX9_lose 26 = .ok (.iconst 1, 1) := by decide +kernel
theorem dX9_lose_27 : decode cX9_lose 27 = .ok (.sipush 10000, 3) := by decide +kernel
theorem dX9_lose_30 : decode cX9_lose 30 = .ok (.invokestatic 93, 3) := by decide +kernel
theorem dX9_lose_33 : decode cX9_lose 33 = .ok (.ifCond .ne 6, 3) := by decide +kernel
theorem dX9_lose_36 : decode cX9_lose 36 = .ok (.ldc 136, 2) := by decide +kernel
theorem dX9_lose_38 : decode cX9_lose 38 = .ok (.ireturn, 1) := by decide +kernel
theorem dX9_lose_39 : decode cX9_lose 39 = .ok (.aload_n 0, 1) := by decide +kernel
theorem dX9_lose_40 : decode cX9_lose 40 = .ok (.iload_n 3, 1) := by decide +kernel
theorem dX9_lose_41 : decode cX9_lose 41 = .ok (.ifCond .ne 7, 3) := by decide +kernel
theorem dX9_lose_44 : decode cX9_lose 44 = .ok (.iconst 4, 1) := by decide +kernel
theorem dX9_lose_45 : decode cX9_lose 45 = .ok (.goto 4, 3) := by decide +kernel
theorem dX9_lose_48 : decode cX9_lose 48 = .ok (.iconst 5, 1) := by decide +kernel
theorem dX9_lose_49 : decode cX9_lose 49 = .ok (.iload_n 1, 1) := by decide +kernel
theorem dX9_lose_50 : decode cX9_lose 50 = .ok (.iload_n 2, 1) := by decide +kernel
theorem dX9_lose_51 : decode cX9_lose 51 = .ok (.iload 4, 2) := by decide +kernel
theorem dX9_lose_53 : decode cX9_lose 53 = .ok (.iconst 0, 1) := by decide +kernel
theorem dX9_lose_54 : decode cX9_lose 54 = .ok (.invokevirtual 129, 3) := by decide +kernel
theorem dX9_lose_57 : decode cX9_lose 57 = .ok (.aload_n 0, 1) := by decide +kernel
theorem dX9_lose_58 : decode cX9_lose 58 = .ok (.getfield 11, 3) := by decide +kernel
theorem dX9_lose_61 : decode cX9_lose 61 = .ok (.iload_n 2, 1) := by decide +kernel
theorem dX9_lose_62 : decode cX9_lose 62 = .ok (.aaload, 1) := by decide +kernel
theorem dX9_lose_63 : decode cX9_lose 63 = .ok (.getfield 138, 3) := by decide +kernel
theorem dX9_lose_66 : decode cX9_lose 66 = .ok (.iload_n 1, 1) := by decide +kernel
theorem dX9_lose_67 : decode cX9_lose 67 = .ok (.iaload, 1) := by decide +kernel
theorem dX9_lose_68 : decode cX9_lose 68 = .ok (.ireturn, 1) := by decide +kernel
set_option maxRecDepth 20000 in
theorem ggX9_weigh_X9_isBar : GoodIn wsX9_weigh wsX9_isBar := goodIn_r _ [11, 12, 13, 10, 14] (by decide +kernel) (by decide +kernel)
set_option maxRecDepth 20000 in
theorem gX9_weigh_X9_isBar : GoodIn wsX9_weigh (va_wsS RX9 133 yX9_isBar wsX9_isBar) := goodIn_app (goodIn_of _ (by decide +kernel)) ggX9_weigh_X9_isBar
set_option maxRecDepth 20000 in
theorem ggX9_weigh_X9_isKind : GoodIn wsX9_weigh wsX9_isKind := goodIn_r _ [18, 19, 12, 13, 10, 14, 88, 89, 90, 91, 92, 93, 94, 95, 96, 97, 98, 99, 100, 101] (by decide +kernel) (by decide +kernel)
set_option maxRecDepth 20000 in
theorem gX9_weigh_X9_isKind : GoodIn wsX9_weigh (wsV RX9 113 RX9 yX9_isKind wsX9_isKind) := goodIn_app (goodIn_of _ (by decide +kernel)) ggX9_weigh_X9_isKind
set_option maxRecDepth 20000 in
theorem ggX9_weigh_X9_isIn : GoodIn wsX9_weigh wsX9_isIn := goodIn_r _ [14] (by decide +kernel) (by decide +kernel)
set_option maxRecDepth 20000 in
theorem gX9_weigh_X9_isIn : GoodIn wsX9_weigh (va_wsS RX9 93 yX9_isIn wsX9_isIn) := goodIn_app (goodIn_of _ (by decide +kernel)) ggX9_weigh_X9_isIn
set_option maxRecDepth 20000 in
theorem ggX9_weigh_X9_sheetOf : GoodIn wsX9_weigh wsX9_sheetOf := goodIn_r _ [23, 24, 88, 89, 90, 91, 92, 93, 94, 95, 96, 97, 98, 99, 100, 101] (by decide +kernel) (by decide +kernel)
set_option maxRecDepth 20000 in
theorem gX9_weigh_X9_sheetOf : GoodIn wsX9_weigh (wsV RX9 149 RX9 yX9_sheetOf wsX9_sheetOf) := goodIn_app (goodIn_of _ (by decide +kernel)) ggX9_weigh_X9_sheetOf
set_option maxRecDepth 20000 in
theorem ggX9_weigh_X4_found : GoodIn wsX9_weigh wsX4_found := goodIn_r _ [29, 30, 31, 32, 33, 34, 35, 36, 107, 108, 109, 110, 111, 112, 113] (by decide +kernel) (by decide +kernel)
set_option maxRecDepth 20000 in
theorem gX9_weigh_X4_found : GoodIn wsX9_weigh (wsV RX9 157 RX4 yX4_found wsX4_found) := goodIn_app (goodIn_of _ (by decide +kernel)) ggX9_weigh_X4_found
set_option maxRecDepth 20000 in
theorem ggX9_weigh_X9_spanNow : GoodIn wsX9_weigh wsX9_spanNow := goodIn_r _ [40, 5, 41, 42, 43, 44, 45, 28, 46, 36, 88, 89, 90, 91, 92, 93, 94, 95, 96, 97, 98, 99, 100, 101, 102, 103, 104, 105, 106, 107, 108, 109, 110, 111, 112, 113] (by decide +kernel) (by decide +kernel)
set_option maxRecDepth 20000 in
theorem gX9_weigh_X9_spanNow : GoodIn wsX9_weigh (wsV RX9 163 RX9 yX9_spanNow wsX9_spanNow) := goodIn_app (goodIn_of _ (by decide +kernel)) ggX9_weigh_X9_spanNow
set_option maxRecDepth 20000 in
theorem ggX9_weigh_X9_carryOut : GoodIn wsX9_weigh wsX9_carryOut := goodIn_r _ [50, 51, 52, 53, 54, 55, 56, 57, 58, 59, 60, 61, 62, 63, 64, 65, 66, 34, 67, 68, 69, 70, 10, 71, 2, 3, 72, 5, 20, 21, 22, 23, 24, 73, 74, 75, 76, 77, 19, 78, 42, 79, 80, 81, 82, 28, 83, 84, 85, 86, 30, 87, 88, 89, 90, 91, 92, 93, 94, 95, 96, 97, 98, 99, 100, 101, 114, 115, 116, 117, 118, 119, 120, 121, 102, 103, 104, 105, 106, 122, 123, 124, 125, 107, 108, 109, 110, 111, 112, 113] (by decide +kernel) (by decide +kernel)
set_option maxRecDepth 20000 in
theorem gX9_weigh_X9_carryOut : GoodIn wsX9_weigh (wsV RX9 129 RX9 yX9_carryOut wsX9_carryOut) := goodIn_app (goodIn_of _ (by decide +kernel)) ggX9_weigh_X9_carryOut
theorem dX9_weigh_0 : decode cX9_weigh 0 = .ok (.iload_n 1, 1) := by decide +kernel
theorem dX9_weigh_1 : decode cX9_weigh 1 = .ok (.invokestatic 133, 3) := by decide +kernel
theorem dX9_weigh_4 : decode cX9_weigh 4 = .ok (.ifCond .eq 33, 3) := by decide +kernel
theorem dX9_weigh_7 : decode cX9_weigh 7 = .ok (.aload_n 0, 1) := by decide +kernel
theorem dX9_weigh_8 : decode cX9_weigh 8 = .ok (.iload_n 2, 1) := by decide +kernel
theorem dX9_weigh_9 : decode cX9_weigh 9 = .ok (.invokevirtual 113, 3) := by decide +kernel
theorem dX9_weigh_12 : decode cX9_weigh 12 = .ok (.ifCond .eq 25, 3) := by decide +kernel
theorem dX9_weigh_15 : decode cX9_weigh 15 = .ok (.iload_n 3, 1) := by decide +kernel
theorem dX9_weigh_16 : decode cX9_weigh 16 = .ok (.iconst 0, 1) := by decide +kernel
theorem dX9_weigh_17 : decode cX9_weigh 17 = .ok (.bipush 50, 2) := by decide +kernel
theorem dX9_weigh_19 : decode cX9_weigh 19 = .ok (.invokestatic 93, 3) := by decide +kernel
theorem dX9_weigh_22 : decode cX9_weigh 22 = .ok (.ifCond .eq 15, 3) := by decide +kernel
theorem dX9_weigh_25 : decode cX9_weigh 25 = .ok (.iload 4, 2) := by decide +kernel
theorem dX9_weigh_27 : decode cX9_weigh 27 = .ok (.iconst 0, 1) := by decide +kernel
theorem dX9_weigh_28 : decode cX9_weigh 28 = .ok (.sipush 5000, 3) := by decide +kernel
theorem dX9_weigh_31 : decode cX9_weigh 31 = .ok (.invokestatic 93, 3) := by decide +kernel
theorem dX9_weigh_34 : decode cX9_weigh 34 = .ok (.ifCond .ne 6, 3) := by decide +kernel
theorem dX9_weigh_37 : decode cX9_weigh 37 = .ok (.ldc 136, 2) := by decide +kernel
theorem dX9_weigh_39 : decode cX9_weigh 39 = .ok (.ireturn, 1) := by decide +kernel
theorem dX9_weigh_40 : decode cX9_weigh 40 = .ok (.aload_n 0, 1) := by decide +kernel
theorem dX9_weigh_41 : decode cX9_weigh 41 = .ok (.aload_n 0, 1) := by decide +kernel
theorem dX9_weigh_42 : decode cX9_weigh 42 = .ok (.getfield 46, 3) := by decide +kernel
theorem dX9_weigh_45 : decode cX9_weigh 45 = .ok (.iload_n 1, 1) := by decide +kernel
theorem dX9_weigh_46 : decode cX9_weigh 46 = .ok (.invokevirtual 149, 3) := by decide +kernel
theorem dX9_weigh_49 : decode cX9_weigh 49 = .ok (.astore 5, 2) := by decide +kernel
theorem dX9_weigh_51 : decode cX9_weigh 51 = .ok (.aload 5, 2) := by decide +kernel
theorem dX9_weigh_53 : decode cX9_weigh 53 = .ok (.getfield 153, 3) := by decide +kernel
theorem dX9_weigh_56 : decode cX9_weigh 56 = .ok (.iload_n 2, 1) := by decide +kernel
theorem dX9_weigh_57 : decode cX9_weigh 57 = .ok (.baload, 1) := by decide +kernel
theorem dX9_weigh_58 : decode cX9_weigh 58 = .ok (.ifCond .eq 6, 3) := by decide +kernel
theorem dX9_weigh_61 : decode cX9_weigh 61 = .ok (.ldc 137, 2) := by decide +kernel
theorem dX9_weigh_63 : decode cX9_weigh 63 = .ok (.ireturn, 1) := by decide +kernel
theorem dX9_weigh_64 : decode cX9_weigh 64 = .ok (.aload_n 0, 1) := by decide +kernel
theorem dX9_weigh_65 : decode cX9_weigh 65 = .ok (.getfield 11, 3) := by decide +kernel
theorem dX9_weigh_68 : decode cX9_weigh 68 = .ok (.iload_n 2, 1) := by decide +kernel
theorem dX9_weigh_69 : decode cX9_weigh 69 = .ok (.aaload, 1) := by decide +kernel
theorem dX9_weigh_70 : decode cX9_weigh 70 = .ok (.getfield 138, 3) := by decide +kernel
theorem dX9_weigh_73 : decode cX9_weigh 73 = .ok (.iload_n 1, 1) := by decide +kernel
theorem dX9_weigh_74 : decode cX9_weigh 74 = .ok (.iaload, 1) := by decide +kernel
theorem dX9_weigh_75 : decode cX9_weigh 75 = .ok (.aload_n 0, 1) := by decide +kernel
theorem dX9_weigh_76 : decode cX9_weigh 76 = .ok (.getfield 11, 3) := by decide +kernel
theorem dX9_weigh_79 : decode cX9_weigh 79 = .ok (.iload_n 2, 1) := by decide +kernel
theorem dX9_weigh_80 : decode cX9_weigh 80 = .ok (.aaload, 1) := by decide +kernel
theorem dX9_weigh_81 : decode cX9_weigh 81 = .ok (.iload_n 3, 1) := by decide +kernel
theorem dX9_weigh_82 : decode cX9_weigh 82 = .ok (.iload 4, 2) := by decide +kernel
theorem dX9_weigh_84 : decode cX9_weigh 84 = .ok (.invokevirtual 157, 3) := by decide +kernel
theorem dX9_weigh_87 : decode cX9_weigh 87 = .ok (.isub, 1) := by decide +kernel
theorem dX9_weigh_88 : decode cX9_weigh 88 = .ok (.istore 6, 2) := by decide +kernel
theorem dX9_weigh_90 : decode cX9_weigh 90 = .ok (.aload 5, 2) := by decide +kernel
theorem dX9_weigh_92 : decode cX9_weigh 92 = .ok (.getfield 160, 3) := by decide +kernel
theorem dX9_weigh_95 : decode cX9_weigh 95 = .ok (.iload_n 2, 1) := by decide +kernel
theorem dX9_weigh_96 : decode cX9_weigh 96 = .ok (.aload_n 0, 1) := by decide +kernel
theorem dX9_weigh_97 : decode cX9_weigh 97 = .ok (.aload 5, 2) := by decide +kernel
theorem dX9_weigh_99 : decode cX9_weigh 99 = .ok (.iload_n 2, 1) := by decide +kernel
theorem dX9_weigh_100 : decode cX9_weigh 100 = .ok (.invokevirtual 163, 3) := by decide +kernel
theorem dX9_weigh_103 : decode cX9_weigh 103 = .ok (.iastore, 1) := by decide +kernel
theorem dX9_weigh_104 : decode cX9_weigh 104 = .ok (.aload_n 0, 1) := by decide +kernel
theorem dX9_weigh_105 : decode cX9_weigh 105 = .ok (.bipush 6, 2) := by decide +kernel
theorem dX9_weigh_107 : decode cX9_weigh 107 = .ok (.iload_n 1, 1) := by decide +kernel
theorem dX9_weigh_108 : decode cX9_weigh 108 = .ok (.iload_n 2, 1) := by decide +kernel
theorem dX9_weigh_109 : decode cX9_weigh 109 = .ok (.iload 6, 2) := by decide +kernel
theorem dX9_weigh_111 : decode cX9_weigh 111 = .ok (.iconst 0, 1) := by decide +kernel
theorem dX9_weigh_112 : decode cX9_weigh 112 = .ok (.invokevirtual 129, 3) := by decide +kernel
theorem dX9_weigh_115 : decode cX9_weigh 115 = .ok (.iload 6, 2) := by decide +kernel
theorem dX9_weigh_117 : decode cX9_weigh 117 = .ok (.ireturn, 1) := by decide +kernel
set_option maxRecDepth 20000 in
theorem ggX9_undo_X1_takeLatest : GoodIn wsX9_undo wsX1_takeLatest := goodIn_r _ [8, 9, 10, 11, 63, 64, 65] (by decide +kernel) (by decide +kernel)
set_option maxRecDepth 20000 in
theorem gX9_undo_X1_takeLatest : GoodIn wsX9_undo (wsV RX9 170 RX1 yX1_takeLatest wsX1_takeLatest) := goodIn_app (goodIn_of _ (by decide +kernel)) ggX9_undo_X1_takeLatest
set_option maxRecDepth 20000 in
theorem ggX9_undo_X9_apply : GoodIn wsX9_undo wsX9_apply := goodIn_r _ [16, 17, 18, 3, 19, 20, 21, 22, 23, 24, 25, 26, 15, 27, 28, 29, 30, 31, 32, 33, 34, 35, 36, 37, 38, 39, 40, 41, 42, 43, 44, 45, 46, 47, 48, 49, 50, 51, 52, 53, 54, 55, 56, 57, 58, 59, 60, 61, 62, 66, 67, 68, 69, 70, 71, 72, 73, 74, 75, 76, 77, 78, 79, 80, 81, 82, 83, 84, 85, 86] (by decide +kernel) (by decide +kernel)
set_option maxRecDepth 20000 in
theorem gX9_undo_X9_apply : GoodIn wsX9_undo (wsV RX9 174 RX9 yX9_apply wsX9_apply) := goodIn_app (goodIn_of _ (by decide +kernel)) ggX9_undo_X9_apply
theorem dX9_undo_0 : decode cX9_undo 0 = .ok (.aload_n 0, 1) := by decide +kernel
theorem dX9_undo_1 : decode cX9_undo 1 = .ok (.getfield 52, 3) := by decide +kernel
theorem dX9_undo_4 : decode cX9_undo 4 = .ok (.getfield 167, 3) := by decide +kernel
theorem dX9_undo_7 : decode cX9_undo 7 = .ok (.ifCond .ne 6, 3) := by decide +kernel
theorem dX9_undo_10 : decode cX9_undo 10 = .ok (.bipush (-2), 2) := by decide +kernel
theorem dX9_undo_12 : decode cX9_undo 12 = .ok (.ireturn, 1) := by decide +kernel
theorem dX9_undo_13 : decode cX9_undo 13 = .ok (.aload_n 0, 1) := by decide +kernel
theorem dX9_undo_14 : decode cX9_undo 14 = .ok (.getfield 52, 3) := by decide +kernel
theorem dX9_undo_17 : decode cX9_undo 17 = .ok (.invokevirtual 170, 3) := by decide +kernel
theorem dX9_undo_20 : decode cX9_undo 20 = .ok (.astore_n 1, 1) := by decide +kernel
theorem dX9_undo_21 : decode cX9_undo 21 = .ok (.aload_n 0, 1) := by decide +kernel
theorem dX9_undo_22 : decode cX9_undo 22 = .ok (.aload_n 1, 1) := by decide +kernel
theorem dX9_undo_23 : decode cX9_undo 23 = .ok (.iconst (-1), 1) := by decide +kernel
theorem dX9_undo_24 : decode cX9_undo 24 = .ok (.invokevirtual 174, 3) := by decide +kernel
theorem dX9_undo_27 : decode cX9_undo 27 = .ok (.aload_n 1, 1) := by decide +kernel
theorem dX9_undo_28 : decode cX9_undo 28 = .ok (.getfield 178, 3) := by decide +kernel
theorem dX9_undo_31 : decode cX9_undo 31 = .ok (.ireturn, 1) := by decide +kernel
set_option maxRecDepth 20000 in
theorem ggX9_keeper_X9_isBar : GoodIn wsX9_keeper wsX9_isBar := goodIn_r _ [6, 7, 8, 5, 9] (by decide +kernel) (by decide +kernel)
set_option maxRecDepth 20000 in
theorem gX9_keeper_X9_isBar : GoodIn wsX9_keeper (va_wsS RX9 133 yX9_isBar wsX9_isBar) := goodIn_app (goodIn_of _ (by decide +kernel)) ggX9_keeper_X9_isBar
set_option maxRecDepth 20000 in
theorem ggX9_keeper_X9_isKeeper : GoodIn wsX9_keeper wsX9_isKeeper := goodIn_r _ [12, 7, 8, 5, 9] (by decide +kernel) (by decide +kernel)
set_option maxRecDepth 20000 in
theorem gX9_keeper_X9_isKeeper : GoodIn wsX9_keeper (va_wsS RX9 183 yX9_isKeeper wsX9_isKeeper) := goodIn_app (goodIn_of _ (by decide +kernel)) ggX9_keeper_X9_isKeeper
set_option maxRecDepth 20000 in
theorem ggX9_keeper_X9_sheetOf : GoodIn wsX9_keeper wsX9_sheetOf := goodIn_r _ [16, 17, 18, 19, 20, 21, 22, 23, 24, 25, 26, 27, 28, 29, 30, 31] (by decide +kernel) (by decide +kernel)
set_option maxRecDepth 20000 in
theorem gX9_keeper_X9_sheetOf : GoodIn wsX9_keeper (wsV RX9 149 RX9 yX9_sheetOf wsX9_sheetOf) := goodIn_app (goodIn_of _ (by decide +kernel)) ggX9_keeper_X9_sheetOf
theorem dX9_keeper_0 : decode cX9_keeper 0 = .ok (.iload_n 1, 1) := by decide +kernel
theorem dX9_keeper_1 : decode cX9_keeper 1 = .ok (.invokestatic 133, 3) := by decide +kernel
theorem dX9_keeper_4 : decode cX9_keeper 4 = .ok (.ifCond .eq 10, 3) := by decide +kernel
theorem dX9_keeper_7 : decode cX9_keeper 7 = .ok (.iload_n 2, 1) := by decide +kernel
theorem dX9_keeper_8 : decode cX9_keeper 8 = .ok (.invokestatic 183, 3) := by decide +kernel
theorem dX9_keeper_11 : decode cX9_keeper 11 = .ok (.ifCond .ne 5, 3) := by decide +kernel
theorem dX9_keeper_14 : decode cX9_keeper 14 = .ok (.iconst (-1), 1) := by decide +kernel
theorem dX9_keeper_15 : decode cX9_keeper 15 = .ok (.ireturn, 1) := by decide +kernel
theorem dX9_keeper_16 : decode cX9_keeper 16 = .ok (.aload_n 0, 1) := by decide +kernel
theorem dX9_keeper_17 : decode cX9_keeper 17 = .ok (.aload_n 0, 1) := by decide +kernel
theorem dX9_keeper_18 : decode cX9_keeper 18 = .ok (.getfield 46, 3) := by decide +kernel
theorem dX9_keeper_21 : decode cX9_keeper 21 = .ok (.iload_n 1, 1) := by decide +kernel
theorem dX9_keeper_22 : decode cX9_keeper 22 = .ok (.invokevirtual 149, 3) := by decide +kernel
theorem dX9_keeper_25 : decode cX9_keeper 25 = .ok (.astore_n 3, 1) := by decide +kernel
theorem dX9_keeper_26 : decode cX9_keeper 26 = .ok (.aload_n 3, 1) := by decide +kernel
theorem dX9_keeper_27 : decode cX9_keeper 27 = .ok (.getfield 186, 3) := by decide +kernel
theorem dX9_keeper_30 : decode cX9_keeper 30 = .ok (.istore 4, 2) := by decide +kernel
theorem dX9_keeper_32 : decode cX9_keeper 32 = .ok (.aload_n 3, 1) := by decide +kernel
theorem dX9_keeper_33 : decode cX9_keeper 33 = .ok (.iload_n 2, 1) := by decide +kernel
theorem dX9_keeper_34 : decode cX9_keeper 34 = .ok (.putfield 186, 3) := by decide +kernel
theorem dX9_keeper_37 : decode cX9_keeper 37 = .ok (.iload 4, 2) := by decide +kernel
theorem dX9_keeper_39 : decode cX9_keeper 39 = .ok (.ireturn, 1) := by decide +kernel
set_option maxRecDepth 20000 in
theorem ggX9_night_X9_sheetOf : GoodIn wsX9_night wsX9_sheetOf := goodIn_r _ [9, 10, 11, 12, 13, 14, 15, 16, 17, 18, 19, 20, 21, 22, 23, 24] (by decide +kernel) (by decide +kernel)
set_option maxRecDepth 20000 in
theorem gX9_night_X9_sheetOf : GoodIn wsX9_night (wsV RX9 149 RX9 yX9_sheetOf wsX9_sheetOf) := goodIn_app (goodIn_of _ (by decide +kernel)) ggX9_night_X9_sheetOf
theorem dX9_night_0 : decode cX9_night 0 = .ok (.aload_n 0, 1) := by decide +kernel
theorem dX9_night_1 : decode cX9_night 1 = .ok (.getfield 46, 3) := by decide +kernel
theorem dX9_night_4 : decode cX9_night 4 = .ok (.bipush 19, 2) := by decide +kernel
theorem dX9_night_6 : decode cX9_night 6 = .ok (.if_icmp .lt 6, 3) := by decide +kernel
theorem dX9_night_9 : decode cX9_night 9 = .ok (.bipush (-3), 2) := by decide +kernel
theorem dX9_night_11 : decode cX9_night 11 = .ok (.ireturn, 1) := by decide +kernel
theorem dX9_night_12 : decode cX9_night 12 = .ok (.iconst 0, 1) := by decide +kernel
theorem dX9_night_13 : decode cX9_night 13 = .ok (.istore_n 1, 1) := by decide +kernel
theorem dX9_night_14 : decode cX9_night 14 = .ok (.iload_n 1, 1) := by decide +kernel
theorem dX9_night_15 : decode cX9_night 15 = .ok (.iconst 2, 1) := by decide +kernel
theorem dX9_night_16 : decode cX9_night 16 = .ok (.if_icmp .ge 35, 3) := by decide +kernel
theorem dX9_night_19 : decode cX9_night 19 = .ok (.aload_n 0, 1) := by decide +kernel
theorem dX9_night_20 : decode cX9_night 20 = .ok (.aload_n 0, 1) := by decide +kernel
theorem dX9_night_21 : decode cX9_night 21 = .ok (.getfield 46, 3) := by decide +kernel
theorem dX9_night_24 : decode cX9_night 24 = .ok (.iconst 1, 1) := by decide +kernel
theorem dX9_night_25 : decode cX9_night 25 = .ok (.iadd, 1) := by decide +kernel
theorem dX9_night_26 : decode cX9_night 26 = .ok (.iload_n 1, 1) := by decide +kernel
theorem dX9_night_27 : decode cX9_night 27 = .ok (.invokevirtual 149, 3) := by decide +kernel
theorem dX9_night_30 : decode cX9_night 30 = .ok (.aload_n 0, 1) := by decide +kernel
theorem dX9_night_31 : decode cX9_night 31 = .ok (.aload_n 0, 1) := by decide +kernel
theorem dX9_night_32 : decode cX9_night 32 = .ok (.getfield 46, 3) := by decide +kernel
theorem dX9_night_35 : decode cX9_night 35 = .ok (.iload_n 1, 1) := by decide +kernel
theorem dX9_night_36 : decode cX9_night 36 = .ok (.invokevirtual 149, 3) := by decide +kernel
theorem dX9_night_39 : decode cX9_night 39 = .ok (.getfield 186, 3) := by decide +kernel
theorem dX9_night_42 : decode cX9_night 42 = .ok (.putfield 186, 3) := by decide +kernel
theorem dX9_night_45 : decode cX9_night 45 = .ok (.iinc 1 1, 3) := by decide +kernel
theorem dX9_night_48 : decode cX9_night 48 = .ok (.goto (-34), 3) := by decide +kernel
theorem dX9_night_51 : decode cX9_night 51 = .ok (.aload_n 0, 1) := by decide +kernel
theorem dX9_night_52 : decode cX9_night 52 = .ok (.dup, 1) := by decide +kernel
theorem dX9_night_53 : decode cX9_night 53 = .ok (.getfield 46, 3) := by decide +kernel
theorem dX9_night_56 : decode cX9_night 56 = .ok (.iconst 1, 1) := by decide +kernel
theorem dX9_night_57 : decode cX9_night 57 = .ok (.iadd, 1) := by decide +kernel
theorem dX9_night_58 : decode cX9_night 58 = .ok (.putfield 46, 3) := by decide +kernel
theorem dX9_night_61 : decode cX9_night 61 = .ok (.aload_n 0, 1) := by decide +kernel
theorem dX9_night_62 : decode cX9_night 62 = .ok (.getfield 52, 3) := by decide +kernel
theorem dX9_night_65 : decode cX9_night 65 = .ok (.iconst 0, 1) := by decide +kernel
theorem dX9_night_66 : decode cX9_night 66 = .ok (.putfield 167, 3) := by decide +kernel
theorem dX9_night_69 : decode cX9_night 69 = .ok (.aload_n 0, 1) := by decide +kernel
theorem dX9_night_70 : decode cX9_night 70 = .ok (.getfield 46, 3) := by decide +kernel
theorem dX9_night_73 : decode cX9_night 73 = .ok (.ireturn, 1) := by decide +kernel
set_option maxRecDepth 20000 in
theorem ggX9_has_X9_isIn : GoodIn wsX9_has wsX9_isIn := goodIn_r _ [8] (by decide +kernel) (by decide +kernel)
set_option maxRecDepth 20000 in
theorem gX9_has_X9_isIn : GoodIn wsX9_has (va_wsS RX9 93 yX9_isIn wsX9_isIn) := goodIn_app (goodIn_of _ (by decide +kernel)) ggX9_has_X9_isIn
set_option maxRecDepth 20000 in
theorem ggX9_has_X9_isKind : GoodIn wsX9_has wsX9_isKind := goodIn_r _ [12, 13, 5, 6, 7, 8, 14, 15, 16, 17, 18, 19, 20, 21, 22, 23, 24, 25, 26, 27] (by decide +kernel) (by decide +kernel)
set_option maxRecDepth 20000 in
theorem gX9_has_X9_isKind : GoodIn wsX9_has (wsV RX9 113 RX9 yX9_isKind wsX9_isKind) := goodIn_app (goodIn_of _ (by decide +kernel)) ggX9_has_X9_isKind
theorem dX9_has_0 : decode cX9_has 0 = .ok (.iload_n 1, 1) := by decide +kernel
theorem dX9_has_1 : decode cX9_has 1 = .ok (.iconst 0, 1) := by decide +kernel
theorem dX9_has_2 : decode cX9_has 2 = .ok (.iconst 2, 1) := by decide +kernel
theorem dX9_has_3 : decode cX9_has 3 = .ok (.invokestatic 93, 3) := by decide +kernel
theorem dX9_has_6 : decode cX9_has 6 = .ok (.ifCond .eq 11, 3) := by decide +kernel
theorem dX9_has_9 : decode cX9_has 9 = .ok (.aload_n 0, 1) := by decide +kernel
theorem dX9_has_10 : decode cX9_has 10 = .ok (.iload_n 2, 1) := by decide +kernel
theorem dX9_has_11 : decode cX9_has 11 = .ok (.invokevirtual 113, 3) := by decide +kernel
theorem dX9_has_14 : decode cX9_has 14 = .ok (.ifCond .ne 6, 3) := by decide +kernel
theorem dX9_has_17 : decode cX9_has 17 = .ok (.ldc 136, 2) := by decide +kernel
theorem dX9_has_19 : decode cX9_has 19 = .ok (.ireturn, 1) := by decide +kernel
theorem dX9_has_20 : decode cX9_has 20 = .ok (.iload_n 1, 1) := by decide +kernel
theorem dX9_has_21 : decode cX9_has 21 = .ok (.iconst 2, 1) := by decide +kernel
theorem dX9_has_22 : decode cX9_has 22 = .ok (.if_icmp .ne 15, 3) := by decide +kernel
theorem dX9_has_25 : decode cX9_has 25 = .ok (.aload_n 0, 1) := by decide +kernel
theorem dX9_has_26 : decode cX9_has 26 = .ok (.getfield 11, 3) := by decide +kernel
theorem dX9_has_29 : decode cX9_has 29 = .ok (.iload_n 2, 1) := by decide +kernel
theorem dX9_has_30 : decode cX9_has 30 = .ok (.aaload, 1) := by decide +kernel
theorem dX9_has_31 : decode cX9_has 31 = .ok (.getfield 126, 3) := by decide +kernel
theorem dX9_has_34 : decode cX9_has 34 = .ok (.goto 14, 3) := by decide +kernel
theorem dX9_has_37 : decode cX9_has 37 = .ok (.aload_n 0, 1) := by decide +kernel
theorem dX9_has_38 : decode cX9_has 38 = .ok (.getfield 11, 3) := by decide +kernel
theorem dX9_has_41 : decode cX9_has 41 = .ok (.iload_n 2, 1) := by decide +kernel
theorem dX9_has_42 : decode cX9_has 42 = .ok (.aaload, 1) := by decide +kernel
theorem dX9_has_43 : decode cX9_has 43 = .ok (.getfield 138, 3) := by decide +kernel
theorem dX9_has_46 : decode cX9_has 46 = .ok (.iload_n 1, 1) := by decide +kernel
theorem dX9_has_47 : decode cX9_has 47 = .ok (.iaload, 1) := by decide +kernel
theorem dX9_has_48 : decode cX9_has 48 = .ok (.ireturn, 1) := by decide +kernel
set_option maxRecDepth 20000 in
theorem ggX9_all_X9_isKind : GoodIn wsX9_all wsX9_isKind := goodIn_r _ [9, 10, 11, 12, 8, 13, 14, 15, 16, 17, 18, 19, 20, 21, 22, 23, 24, 25, 26, 27] (by decide +kernel) (by decide +kernel)
set_option maxRecDepth 20000 in
theorem gX9_all_X9_isKind : GoodIn wsX9_all (wsV RX9 113 RX9 yX9_isKind wsX9_isKind) := goodIn_app (goodIn_of _ (by decide +kernel)) ggX9_all_X9_isKind
set_option maxRecDepth 20000 in
theorem ggX9_all_X9_isIn : GoodIn wsX9_all wsX9_isIn := goodIn_r _ [13] (by decide +kernel) (by decide +kernel)
set_option maxRecDepth 20000 in
theorem gX9_all_X9_isIn : GoodIn wsX9_all (va_wsS RX9 93 yX9_isIn wsX9_isIn) := goodIn_app (goodIn_of _ (by decide +kernel)) ggX9_all_X9_isIn
theorem dX9_all_0 : decode cX9_all 0 = .ok (.aload_n 0, 1) := by decide +kernel
theorem dX9_all_1 : decode cX9_all 1 = .ok (.iload_n 1, 1) := by decide +kernel
theorem dX9_all_2 : decode cX9_all 2 = .ok (.invokevirtual 113, 3) := by decide +kernel
theorem dX9_all_5 : decode cX9_all 5 = .ok (.ifCond .eq 12, 3) := by decide +kernel
theorem dX9_all_8 : decode cX9_all 8 = .ok (.iload_n 2, 1) := by decide +kernel
theorem dX9_all_9 : decode cX9_all 9 = .ok (.iconst 0, 1) := by decide +kernel
theorem dX9_all_10 : decode cX9_all 10 = .ok (.iconst 4, 1) := by decide +kernel
theorem dX9_all_11 : decode cX9_all 11 = .ok (.invokestatic 93, 3) := by decide +kernel
theorem dX9_all_14 : decode cX9_all 14 = .ok (.ifCond .ne 6, 3) := by decide +kernel
theorem dX9_all_17 : decode cX9_all 17 = .ok (.ldc 136, 2) := by decide +kernel
theorem dX9_all_19 : decode cX9_all 19 = .ok (.ireturn, 1) := by decide +kernel
theorem dX9_all_20 : decode cX9_all 20 = .ok (.iload_n 2, 1) := by decide +kernel
theorem dX9_all_21 : decode cX9_all 21 = .ok (.iconst 4, 1) := by decide +kernel
theorem dX9_all_22 : decode cX9_all 22 = .ok (.if_icmp .ne 15, 3) := by decide +kernel
theorem dX9_all_25 : decode cX9_all 25 = .ok (.aload_n 0, 1) := by decide +kernel
theorem dX9_all_26 : decode cX9_all 26 = .ok (.getfield 11, 3) := by decide +kernel
theorem dX9_all_29 : decode cX9_all 29 = .ok (.iload_n 1, 1) := by decide +kernel
theorem dX9_all_30 : decode cX9_all 30 = .ok (.aaload, 1) := by decide +kernel
theorem dX9_all_31 : decode cX9_all 31 = .ok (.getfield 189, 3) := by decide +kernel
theorem dX9_all_34 : decode cX9_all 34 = .ok (.goto 14, 3) := by decide +kernel
theorem dX9_all_37 : decode cX9_all 37 = .ok (.aload_n 0, 1) := by decide +kernel
theorem dX9_all_38 : decode cX9_all 38 = .ok (.getfield 11, 3) := by decide +kernel
theorem dX9_all_41 : decode cX9_all 41 = .ok (.iload_n 1, 1) := by decide +kernel
theorem dX9_all_42 : decode cX9_all 42 = .ok (.aaload, 1) := by decide +kernel
theorem dX9_all_43 : decode cX9_all 43 = .ok (.getfield 192, 3) := by decide +kernel
theorem dX9_all_46 : decode cX9_all 46 = .ok (.iload_n 2, 1) := by decide +kernel
theorem dX9_all_47 : decode cX9_all 47 = .ok (.iaload, 1) := by decide +kernel
theorem dX9_all_48 : decode cX9_all 48 = .ok (.ireturn, 1) := by decide +kernel
set_option maxRecDepth 20000 in
theorem ggX9_gap_X9_isIn : GoodIn wsX9_gap wsX9_isIn := goodIn_r _ [12] (by decide +kernel) (by decide +kernel)
set_option maxRecDepth 20000 in
theorem gX9_gap_X9_isIn : GoodIn wsX9_gap (va_wsS RX9 93 yX9_isIn wsX9_isIn) := goodIn_app (goodIn_of _ (by decide +kernel)) ggX9_gap_X9_isIn
set_option maxRecDepth 20000 in
theorem ggX9_gap_X9_isBar : GoodIn wsX9_gap wsX9_isBar := goodIn_r _ [15, 9, 10, 11, 12] (by decide +kernel) (by decide +kernel)
set_option maxRecDepth 20000 in
theorem gX9_gap_X9_isBar : GoodIn wsX9_gap (va_wsS RX9 133 yX9_isBar wsX9_isBar) := goodIn_app (goodIn_of _ (by decide +kernel)) ggX9_gap_X9_isBar
set_option maxRecDepth 20000 in
theorem ggX9_gap_X9_isKind : GoodIn wsX9_gap wsX9_isKind := goodIn_r _ [19, 20, 9, 10, 11, 12, 50, 51, 52, 53, 54, 55, 56, 57, 58, 59, 60, 61, 62, 63] (by decide +kernel) (by decide +kernel)
set_option maxRecDepth 20000 in
theorem gX9_gap_X9_isKind : GoodIn wsX9_gap (wsV RX9 113 RX9 yX9_isKind wsX9_isKind) := goodIn_app (goodIn_of _ (by decide +kernel)) ggX9_gap_X9_isKind
set_option maxRecDepth 20000 in
theorem ggX9_gap_X9_sheetOf : GoodIn wsX9_gap wsX9_sheetOf := goodIn_r _ [24, 25, 50, 51, 52, 53, 54, 55, 56, 57, 58, 59, 60, 61, 62, 63] (by decide +kernel) (by decide +kernel)
set_option maxRecDepth 20000 in
theorem gX9_gap_X9_sheetOf : GoodIn wsX9_gap (wsV RX9 149 RX9 yX9_sheetOf wsX9_sheetOf) := goodIn_app (goodIn_of _ (by decide +kernel)) ggX9_gap_X9_sheetOf
set_option maxRecDepth 20000 in
theorem ggX9_gap_X9_spanNow : GoodIn wsX9_gap wsX9_spanNow := goodIn_r _ [29, 30, 31, 7, 32, 33, 34, 35, 36, 37, 50, 51, 52, 53, 54, 55, 56, 57, 58, 59, 60, 61, 62, 63, 64, 65, 66, 67, 68, 69, 70, 71, 72, 73, 74, 75] (by decide +kernel) (by decide +kernel)
set_option maxRecDepth 20000 in
theorem gX9_gap_X9_spanNow : GoodIn wsX9_gap (wsV RX9 163 RX9 yX9_spanNow wsX9_spanNow) := goodIn_app (goodIn_of _ (by decide +kernel)) ggX9_gap_X9_spanNow
set_option maxRecDepth 20000 in
theorem ggX9_gap_X7_isTold : GoodIn wsX9_gap wsX7_isTold := goodIn_r _ [42, 43, 44, 45, 46, 47, 48, 49, 64, 65, 66, 67, 68] (by decide +kernel) (by decide +kernel)
set_option maxRecDepth 20000 in
theorem gX9_gap_X7_isTold : GoodIn wsX9_gap (wsV RX9 199 RX7 yX7_isTold wsX7_isTold) := goodIn_app (goodIn_of _ (by decide +kernel)) ggX9_gap_X7_isTold
theorem dX9_gap_0 : decode cX9_gap 0 = .ok (.iload_n 1, 1) := by decide +kernel
theorem dX9_gap_1 : decode cX9_gap 1 = .ok (.iconst 0, 1) := by decide +kernel
theorem dX9_gap_2 : decode cX9_gap 2 = .ok (.aload_n 0, 1) := by decide +kernel
theorem dX9_gap_3 : decode cX9_gap 3 = .ok (.getfield 46, 3) := by decide +kernel
theorem dX9_gap_6 : decode cX9_gap 6 = .ok (.invokestatic 93, 3) := by decide +kernel
theorem dX9_gap_9 : decode cX9_gap 9 = .ok (.ifCond .eq 28, 3) := by decide +kernel
theorem dX9_gap_12 : decode cX9_gap 12 = .ok (.iload_n 2, 1) := by decide +kernel
theorem dX9_gap_13 : decode cX9_gap 13 = .ok (.invokestatic 133, 3) := by decide +kernel
theorem dX9_gap_16 : decode cX9_gap 16 = .ok (.ifCond .eq 21, 3) := by decide +kernel
theorem dX9_gap_19 : decode cX9_gap 19 = .ok (.aload_n 0, 1) := by decide +kernel
theorem dX9_gap_20 : decode cX9_gap 20 = .ok (.iload_n 3, 1) := by decide +kernel
theorem dX9_gap_21 : decode cX9_gap 21 = .ok (.invokevirtual 113, 3) := by decide +kernel
theorem dX9_gap_24 : decode cX9_gap 24 = .ok (.ifCond .eq 13, 3) := by decide +kernel
theorem dX9_gap_27 : decode cX9_gap 27 = .ok (.iload 4, 2) := by decide +kernel
theorem dX9_gap_29 : decode cX9_gap 29 = .ok (.iconst 0, 1) := by decide +kernel
theorem dX9_gap_30 : decode cX9_gap 30 = .ok (.iconst 4, 1) := by decide +kernel
theorem dX9_gap_31 : decode cX9_gap 31 = .ok (.invokestatic 93, 3) := by decide +kernel
theorem dX9_gap_34 : decode cX9_gap 34 = .ok (.ifCond .ne 6, 3) := by decide +kernel
theorem dX9_gap_37 : decode cX9_gap 37 = .ok (.ldc 136, 2) := by decide +kernel
theorem dX9_gap_39 : decode cX9_gap 39 = .ok (.ireturn, 1) := by decide +kernel
theorem dX9_gap_40 : decode cX9_gap 40 = .ok (.aload_n 0, 1) := by decide +kernel
theorem dX9_gap_41 : decode cX9_gap 41 = .ok (.iload_n 1, 1) := by decide +kernel
theorem dX9_gap_42 : decode cX9_gap 42 = .ok (.iload_n 2, 1) := by decide +kernel
theorem dX9_gap_43 : decode cX9_gap 43 = .ok (.invokevirtual 149, 3) := by decide +kernel
theorem dX9_gap_46 : decode cX9_gap 46 = .ok (.astore 5, 2) := by decide +kernel
theorem dX9_gap_48 : decode cX9_gap 48 = .ok (.iload 4, 2) := by decide +kernel
theorem dX9_gap_50 : decode cX9_gap 50 = .ok (.tableswitch 104 0 3 #[30, 53, 81, 96], 30) := by decide +kernel
theorem dX9_gap_80 : decode cX9_gap 80 = .ok (.aload 5, 2) := by decide +kernel
theorem dX9_gap_82 : decode cX9_gap 82 = .ok (.getfield 153, 3) := by decide +kernel
theorem dX9_gap_85 : decode cX9_gap 85 = .ok (.iload_n 3, 1) := by decide +kernel
theorem dX9_gap_86 : decode cX9_gap 86 = .ok (.baload, 1) := by decide +kernel
theorem dX9_gap_87 : decode cX9_gap 87 = .ok (.ifCond .eq 13, 3) := by decide +kernel
theorem dX9_gap_90 : decode cX9_gap 90 = .ok (.aload 5, 2) := by decide +kernel
theorem dX9_gap_92 : decode cX9_gap 92 = .ok (.getfield 195, 3) := by decide +kernel
theorem dX9_gap_95 : decode cX9_gap 95 = .ok (.iload_n 3, 1) := by decide +kernel
theorem dX9_gap_96 : decode cX9_gap 96 = .ok (.iaload, 1) := by decide +kernel
theorem dX9_gap_97 : decode cX9_gap 97 = .ok (.goto 5, 3) := by decide +kernel
theorem dX9_gap_100 : decode cX9_gap 100 = .ok (.ldc 198, 2) := by decide +kernel
theorem dX9_gap_102 : decode cX9_gap 102 = .ok (.ireturn, 1) := by decide +kernel
theorem dX9_gap_103 : decode cX9_gap 103 = .ok (.aload 5, 2) := by decide +kernel
theorem dX9_gap_105 : decode cX9_gap 105 = .ok (.getfield 153, 3) := by decide +kernel
theorem dX9_gap_108 : decode cX9_gap 108 = .ok (.iload_n 3, 1) := by decide +kernel
theorem dX9_gap_109 : decode cX9_gap 109 = .ok (.baload, 1) := by decide +kernel
theorem dX9_gap_110 : decode cX9_gap 110 = .ok (.ifCond .eq 13, 3) := by decide +kernel
theorem dX9_gap_113 : decode cX9_gap 113 = .ok (.aload 5, 2) := by decide +kernel
theorem dX9_gap_115 : decode cX9_gap 115 = .ok (.getfield 160, 3) := by decide +kernel
theorem dX9_gap_118 : decode cX9_gap 118 = .ok (.iload_n 3, 1) := by decide +kernel
theorem dX9_gap_119 : decode cX9_gap 119 = .ok (.iaload, 1) := by decide +kernel
theorem dX9_gap_120 : decode cX9_gap 120 = .ok (.goto 10, 3) := by decide +kernel
theorem dX9_gap_123 : decode cX9_gap 123 = .ok (.aload_n 0, 1) := by decide +kernel
theorem dX9_gap_124 : decode cX9_gap 124 = .ok (.aload 5, 2) := by decide +kernel
theorem dX9_gap_126 : decode cX9_gap 126 = .ok (.iload_n 3, 1) := by decide +kernel
theorem dX9_gap_127 : decode cX9_gap 127 = .ok (.invokevirtual 163, 3) := by decide +kernel
theorem dX9_gap_130 : decode cX9_gap 130 = .ok (.ireturn, 1) := by decide +kernel
theorem dX9_gap_131 : decode cX9_gap 131 = .ok (.aload 5, 2) := by decide +kernel
theorem dX9_gap_133 : decode cX9_gap 133 = .ok (.iload_n 3, 1) := by decide +kernel
theorem dX9_gap_134 : decode cX9_gap 134 = .ok (.invokevirtual 199, 3) := by decide +kernel
theorem dX9_gap_137 : decode cX9_gap 137 = .ok (.ifCond .eq 7, 3) := by decide +kernel
theorem dX9_gap_140 : decode cX9_gap 140 = .ok (.iconst 1, 1) := by decide +kernel
theorem dX9_gap_141 : decode cX9_gap 141 = .ok (.goto 4, 3) := by decide +kernel
theorem dX9_gap_144 : decode cX9_gap 144 = .ok (.iconst 0, 1) := by decide +kernel
theorem dX9_gap_145 : decode cX9_gap 145 = .ok (.ireturn, 1) := by decide +kernel
theorem dX9_gap_146 : decode cX9_gap 146 = .ok (.aload 5, 2) := by decide +kernel
theorem dX9_gap_148 : decode cX9_gap 148 = .ok (.getfield 202, 3) := by decide +kernel
theorem dX9_gap_151 : decode cX9_gap 151 = .ok (.iload_n 3, 1) := by decide +kernel
theorem dX9_gap_152 : decode cX9_gap 152 = .ok (.iaload, 1) := by decide +kernel
theorem dX9_gap_153 : decode cX9_gap 153 = .ok (.ireturn, 1) := by decide +kernel
theorem dX9_gap_154 : decode cX9_gap 154 = .ok (.aload 5, 2) := by decide +kernel
theorem dX9_gap_156 : decode cX9_gap 156 = .ok (.getfield 186, 3) := by decide +kernel
theorem dX9_gap_159 : decode cX9_gap 159 = .ok (.ireturn, 1) := by decide +kernel
set_option maxRecDepth 20000 in
theorem ggX9_over_X9_isKeeper : GoodIn wsX9_over wsX9_isKeeper := goodIn_r _ [13, 14, 15, 12, 16] (by decide +kernel) (by decide +kernel)
set_option maxRecDepth 20000 in
theorem gX9_over_X9_isKeeper : GoodIn wsX9_over (va_wsS RX9 183 yX9_isKeeper wsX9_isKeeper) := goodIn_app (goodIn_of _ (by decide +kernel)) ggX9_over_X9_isKeeper
set_option maxRecDepth 20000 in
theorem ggX9_over_X9_isKind : GoodIn wsX9_over wsX9_isKind := goodIn_r _ [20, 21, 14, 15, 12, 16, 38, 39, 40, 41, 42, 43, 44, 45, 46, 47, 48, 49, 50, 51] (by decide +kernel) (by decide +kernel)
set_option maxRecDepth 20000 in
theorem gX9_over_X9_isKind : GoodIn wsX9_over (wsV RX9 113 RX9 yX9_isKind wsX9_isKind) := goodIn_app (goodIn_of _ (by decide +kernel)) ggX9_over_X9_isKind
set_option maxRecDepth 20000 in
theorem ggX9_over_X9_isIn : GoodIn wsX9_over wsX9_isIn := goodIn_r _ [16] (by decide +kernel) (by decide +kernel)
set_option maxRecDepth 20000 in
theorem gX9_over_X9_isIn : GoodIn wsX9_over (va_wsS RX9 93 yX9_isIn wsX9_isIn) := goodIn_app (goodIn_of _ (by decide +kernel)) ggX9_over_X9_isIn
set_option maxRecDepth 20000 in
theorem ggX9_over_X9_sheetsSoFar : GoodIn wsX9_over wsX9_sheetsSoFar := goodIn_r _ [25, 26, 38, 39, 40, 41, 42, 43, 44, 45, 46, 47, 48, 49, 50, 51] (by decide +kernel) (by decide +kernel)
set_option maxRecDepth 20000 in
theorem gX9_over_X9_sheetsSoFar : GoodIn wsX9_over (wsV RX9 207 RX9 yX9_sheetsSoFar wsX9_sheetsSoFar) := goodIn_app (goodIn_of _ (by decide +kernel)) ggX9_over_X9_sheetsSoFar
set_option maxRecDepth 20000 in
theorem ggX9_over_X7_judges : GoodIn wsX9_over wsX7_judges := goodIn_r _ [31, 32, 33, 34, 52, 53, 54, 55, 56] (by decide +kernel) (by decide +kernel)
set_option maxRecDepth 20000 in
theorem gX9_over_X7_judges : GoodIn wsX9_over (wsV RX9 211 RX7 yX7_judges wsX7_judges) := goodIn_app (goodIn_of _ (by decide +kernel)) ggX9_over_X7_judges
set_option maxRecDepth 20000 in
theorem ggX9_over_X9_commonDivisor : GoodIn wsX9_over wsX9_commonDivisor := goodIn_r _ [37] (by decide +kernel) (by decide +kernel)
set_option maxRecDepth 20000 in
theorem gX9_over_X9_commonDivisor : GoodIn wsX9_over (va_wsS RX9 222 yX9_commonDivisor wsX9_commonDivisor) := goodIn_app (goodIn_of _ (by decide +kernel)) ggX9_over_X9_commonDivisor
theorem dX9_over_0 : decode cX9_over 0 = .ok (.iload_n 1, 1) := by decide +kernel
theorem dX9_over_1 : decode cX9_over 1 = .ok (.invokestatic 183, 3) := by decide +kernel
theorem dX9_over_4 : decode cX9_over 4 = .ok (.ifCond .eq 20, 3) := by decide +kernel
theorem dX9_over_7 : decode cX9_over 7 = .ok (.aload_n 0, 1) := by decide +kernel
theorem dX9_over_8 : decode cX9_over 8 = .ok (.iload_n 2, 1) := by decide +kernel
theorem dX9_over_9 : decode cX9_over 9 = .ok (.invokevirtual 113, 3) := by decide +kernel
theorem dX9_over_12 : decode cX9_over 12 = .ok (.ifCond .eq 12, 3) := by decide +kernel
theorem dX9_over_15 : decode cX9_over 15 = .ok (.iload_n 3, 1) := by decide +kernel
theorem dX9_over_16 : decode cX9_over 16 = .ok (.iconst 0, 1) := by decide +kernel
theorem dX9_over_17 : decode cX9_over 17 = .ok (.iconst 1, 1) := by decide +kernel
theorem dX9_over_18 : decode cX9_over 18 = .ok (.invokestatic 93, 3) := by decide +kernel
theorem dX9_over_21 : decode cX9_over 21 = .ok (.ifCond .ne 7, 3) := by decide +kernel
theorem dX9_over_24 : decode cX9_over 24 = .ok (.ldc2_w 205, 3) := by decide +kernel
theorem dX9_over_27 : decode cX9_over 27 = .ok (.lreturn, 1) := by decide +kernel
theorem dX9_over_28 : decode cX9_over 28 = .ok (.iconst 0, 1) := by decide +kernel
theorem dX9_over_29 : decode cX9_over 29 = .ok (.istore 4, 2) := by decide +kernel
theorem dX9_over_31 : decode cX9_over 31 = .ok (.lconst 0, 1) := by decide +kernel
theorem dX9_over_32 : decode cX9_over 32 = .ok (.lstore 5, 2) := by decide +kernel
theorem dX9_over_34 : decode cX9_over 34 = .ok (.lconst 0, 1) := by decide +kernel
theorem dX9_over_35 : decode cX9_over 35 = .ok (.lstore 7, 2) := by decide +kernel
theorem dX9_over_37 : decode cX9_over 37 = .ok (.iconst 0, 1) := by decide +kernel
theorem dX9_over_38 : decode cX9_over 38 = .ok (.istore 9, 2) := by decide +kernel
theorem dX9_over_40 : decode cX9_over 40 = .ok (.iload 9, 2) := by decide +kernel
theorem dX9_over_42 : decode cX9_over 42 = .ok (.aload_n 0, 1) := by decide +kernel
theorem dX9_over_43 : decode cX9_over 43 = .ok (.invokevirtual 207, 3) := by decide +kernel
theorem dX9_over_46 : decode cX9_over 46 = .ok (.if_icmp .ge 73, 3) := by decide +kernel
theorem dX9_over_49 : decode cX9_over 49 = .ok (.aload_n 0, 1) := by decide +kernel
theorem dX9_over_50 : decode cX9_over 50 = .ok (.getfield 42, 3) := by decide +kernel
theorem dX9_over_53 : decode cX9_over 53 = .ok (.iload 9, 2) := by decide +kernel
theorem dX9_over_55 : decode cX9_over 55 = .ok (.aaload, 1) := by decide +kernel
theorem dX9_over_56 : decode cX9_over 56 = .ok (.iload_n 1, 1) := by decide +kernel
theorem dX9_over_57 : decode cX9_over 57 = .ok (.iload_n 2, 1) := by decide +kernel
theorem dX9_over_58 : decode cX9_over 58 = .ok (.invokevirtual 211, 3) := by decide +kernel
theorem dX9_over_61 : decode cX9_over 61 = .ok (.ifCond .eq 52, 3) := by decide +kernel
theorem dX9_over_64 : decode cX9_over 64 = .ok (.aload_n 0, 1) := by decide +kernel
theorem dX9_over_65 : decode cX9_over 65 = .ok (.getfield 42, 3) := by decide +kernel
theorem dX9_over_68 : decode cX9_over 68 = .ok (.iload 9, 2) := by decide +kernel
theorem dX9_over_70 : decode cX9_over 70 = .ok (.aaload, 1) := by decide +kernel
theorem dX9_over_71 : decode cX9_over 71 = .ok (.getfield 202, 3) := by decide +kernel
theorem dX9_over_74 : decode cX9_over 74 = .ok (.iload_n 2, 1) := by decide +kernel
theorem dX9_over_75 : decode cX9_over 75 = .ok (.iaload, 1) := by decide +kernel
theorem dX9_over_76 : decode cX9_over 76 = .ok (.i2l, 1) := by decide +kernel
theorem dX9_over_77 : decode cX9_over 77 = .ok (.lstore 10, 2) := by decide +kernel
theorem dX9_over_79 : decode cX9_over 79 = .ok (.iinc 4 1, 3) := by decide +kernel
theorem dX9_over_82 : decode cX9_over 82 = .ok (.lload 5, 2) := by decide +kernel
theorem dX9_over_84 : decode cX9_over 84 = .ok (.lload 10, 2) := by decide +kernel
theorem dX9_over_86 : decode cX9_over 86 = .ok (.aload_n 0, 1) := by decide +kernel
theorem dX9_over_87 : decode cX9_over 87 = .ok (.getfield 42, 3) := by decide +kernel
theorem dX9_over_90 : decode cX9_over 90 = .ok (.iload 9, 2) := by decide +kernel
theorem dX9_over_92 : decode cX9_over 92 = .ok (.aaload, 1) := by decide +kernel
theorem dX9_over_93 : decode cX9_over 93 = .ok (.getfield 195, 3) := by decide +kernel
theorem dX9_over_96 : decode cX9_over 96 = .ok (.iload_n 2, 1) := by decide +kernel
theorem dX9_over_97 : decode cX9_over 97 = .ok (.iaload, 1) := by decide +kernel
theorem dX9_over_98 : decode cX9_over 98 = .ok (.i2l, 1) := by decide +kernel
theorem dX9_over_99 : decode cX9_over 99 = .ok (.lmul, 1) := by decide +kernel
theorem dX9_over_100 : decode cX9_over 100 = .ok (.ladd, 1) := by decide +kernel
theorem dX9_over_101 : decode cX9_over 101 = .ok (.lstore 5, 2) := by decide +kernel
theorem dX9_over_103 : decode cX9_over 103 = .ok (.lload 7, 2) := by decide +kernel
theorem dX9_over_105 : decode cX9_over 105 = .ok (.lload 10, 2) := by decide +kernel
theorem dX9_over_107 : decode cX9_over 107 = .ok (.lload 10, 2) := by decide +kernel
theorem dX9_over_109 : decode cX9_over 109 = .ok (.lmul, 1) := by decide +kernel
theorem dX9_over_110 : decode cX9_over 110 = .ok (.ladd, 1) := by decide +kernel
theorem dX9_over_111 : decode cX9_over 111 = .ok (.lstore 7, 2) := by decide +kernel
theorem dX9_over_113 : decode cX9_over 113 = .ok (.iinc 9 1, 3) := by decide +kernel
theorem dX9_over_116 : decode cX9_over 116 = .ok (.goto (-76), 3) := by decide +kernel
theorem dX9_over_119 : decode cX9_over 119 = .ok (.iload 4, 2) := by decide +kernel
theorem dX9_over_121 : decode cX9_over 121 = .ok (.iconst 3, 1) := by decide +kernel
theorem dX9_over_122 : decode cX9_over 122 = .ok (.if_icmp .ge 7, 3) := by decide +kernel
theorem dX9_over_125 : decode cX9_over 125 = .ok (.ldc2_w 214, 3) := by decide +kernel
theorem dX9_over_128 : decode cX9_over 128 = .ok (.lreturn, 1) := by decide +kernel
theorem dX9_over_129 : decode cX9_over 129 = .ok (.iload_n 3, 1) := by decide +kernel
theorem dX9_over_130 : decode cX9_over 130 = .ok (.ifCond .ne 8, 3) := by decide +kernel
theorem dX9_over_133 : decode cX9_over 133 = .ok (.lload 5, 2) := by decide +kernel
theorem dX9_over_135 : decode cX9_over 135 = .ok (.goto 5, 3) := by decide +kernel
theorem dX9_over_138 : decode cX9_over 138 = .ok (.lload 7, 2) := by decide +kernel
theorem dX9_over_140 : decode cX9_over 140 = .ok (.lload 5, 2) := by decide +kernel
theorem dX9_over_142 : decode cX9_over 142 = .ok (.invokestatic 216, 3) := by decide +kernel
theorem dX9_over_145 : decode cX9_over 145 = .ok (.lload 7, 2) := by decide +kernel
theorem dX9_over_147 : decode cX9_over 147 = .ok (.invokestatic 222, 3) := by decide +kernel
theorem dX9_over_150 : decode cX9_over 150 = .ok (.ldiv, 1) := by decide +kernel
theorem dX9_over_151 : decode cX9_over 151 = .ok (.lreturn, 1) := by decide +kernel
set_option maxRecDepth 20000 in
theorem ggX9_leans_X9_isKeeper : GoodIn wsX9_leans wsX9_isKeeper := goodIn_r _ [5, 6, 7, 4, 8] (by decide +kernel) (by decide +kernel)
set_option maxRecDepth 20000 in
theorem gX9_leans_X9_isKeeper : GoodIn wsX9_leans (va_wsS RX9 183 yX9_isKeeper wsX9_isKeeper) := goodIn_app (goodIn_of _ (by decide +kernel)) ggX9_leans_X9_isKeeper
set_option maxRecDepth 20000 in
theorem ggX9_leans_X9_isKind : GoodIn wsX9_leans wsX9_isKind := goodIn_r _ [12, 13, 6, 7, 4, 8, 37, 38, 39, 40, 41, 42, 43, 44, 45, 46, 47, 48, 49, 50] (by decide +kernel) (by decide +kernel)
set_option maxRecDepth 20000 in
theorem gX9_leans_X9_isKind : GoodIn wsX9_leans (wsV RX9 113 RX9 yX9_isKind wsX9_isKind) := goodIn_app (goodIn_of _ (by decide +kernel)) ggX9_leans_X9_isKind
set_option maxRecDepth 20000 in
theorem ggX9_leans_X9_sheetsSoFar : GoodIn wsX9_leans wsX9_sheetsSoFar := goodIn_r _ [17, 18, 37, 38, 39, 40, 41, 42, 43, 44, 45, 46, 47, 48, 49, 50] (by decide +kernel) (by decide +kernel)
set_option maxRecDepth 20000 in
theorem gX9_leans_X9_sheetsSoFar : GoodIn wsX9_leans (wsV RX9 207 RX9 yX9_sheetsSoFar wsX9_sheetsSoFar) := goodIn_app (goodIn_of _ (by decide +kernel)) ggX9_leans_X9_sheetsSoFar
set_option maxRecDepth 20000 in
theorem ggX9_leans_X7_judges : GoodIn wsX9_leans wsX7_judges := goodIn_r _ [23, 24, 25, 26, 51, 52, 53, 54, 55] (by decide +kernel) (by decide +kernel)
set_option maxRecDepth 20000 in
theorem gX9_leans_X7_judges : GoodIn wsX9_leans (wsV RX9 211 RX7 yX7_judges wsX7_judges) := goodIn_app (goodIn_of _ (by decide +kernel)) ggX9_leans_X7_judges
set_option maxRecDepth 20000 in
theorem ggX9_leans_X7_isTold : GoodIn wsX9_leans wsX7_isTold := goodIn_r _ [30, 25, 31, 32, 33, 34, 35, 36, 51, 52, 53, 54, 55] (by decide +kernel) (by decide +kernel)
set_option maxRecDepth 20000 in
theorem gX9_leans_X7_isTold : GoodIn wsX9_leans (wsV RX9 199 RX7 yX7_isTold wsX7_isTold) := goodIn_app (goodIn_of _ (by decide +kernel)) ggX9_leans_X7_isTold
theorem dX9_leans_0 : decode cX9_leans 0 = .ok (.iload_n 1, 1) := by decide +kernel
theorem dX9_leans_1 : decode cX9_leans 1 = .ok (.invokestatic 183, 3) := by decide +kernel
theorem dX9_leans_4 : decode cX9_leans 4 = .ok (.ifCond .eq 11, 3) := by decide +kernel
theorem dX9_leans_7 : decode cX9_leans 7 = .ok (.aload_n 0, 1) := by decide +kernel
theorem dX9_leans_8 : decode cX9_leans 8 = .ok (.iload_n 2, 1) := by decide +kernel
theorem dX9_leans_9 : decode cX9_leans 9 = .ok (.invokevirtual 113, 3) := by decide +kernel
theorem dX9_leans_12 : decode cX9_leans 12 = .ok (.ifCond .ne 5, 3) := by decide +kernel
theorem dX9_leans_15 : decode cX9_leans 15 = .ok (.iconst (-1), 1) := by decide +kernel
theorem dX9_leans_16 : decode cX9_leans 16 = .ok (.ireturn, 1) := by decide +kernel
theorem dX9_leans_17 : decode cX9_leans 17 = .ok (.iconst 0, 1) := by decide +kernel
theorem dX9_leans_18 : decode cX9_leans 18 = .ok (.istore_n 3, 1) := by decide +kernel
theorem dX9_leans_19 : decode cX9_leans 19 = .ok (.iconst 0, 1) := by decide +kernel
theorem dX9_leans_20 : decode cX9_leans 20 = .ok (.istore 4, 2) := by decide +kernel
theorem dX9_leans_22 : decode cX9_leans 22 = .ok (.iload 4, 2) := by decide +kernel
theorem dX9_leans_24 : decode cX9_leans 24 = .ok (.aload_n 0, 1) := by decide +kernel
theorem dX9_leans_25 : decode cX9_leans 25 = .ok (.invokevirtual 207, 3) := by decide +kernel
theorem dX9_leans_28 : decode cX9_leans 28 = .ok (.if_icmp .ge 41, 3) := by decide +kernel
theorem dX9_leans_31 : decode cX9_leans 31 = .ok (.aload_n 0, 1) := by decide +kernel
theorem dX9_leans_32 : decode cX9_leans 32 = .ok (.getfield 42, 3) := by decide +kernel
theorem dX9_leans_35 : decode cX9_leans 35 = .ok (.iload 4, 2) := by decide +kernel
theorem dX9_leans_37 : decode cX9_leans 37 = .ok (.aaload, 1) := by decide +kernel
theorem dX9_leans_38 : decode cX9_leans 38 = .ok (.iload_n 1, 1) := by decide +kernel
theorem dX9_leans_39 : decode cX9_leans 39 = .ok (.iload_n 2, 1) := by decide +kernel
theorem dX9_leans_40 : decode cX9_leans 40 = .ok (.invokevirtual 211, 3) := by decide +kernel
theorem dX9_leans_43 : decode cX9_leans 43 = .ok (.ifCond .eq 20, 3) := by decide +kernel
theorem dX9_leans_46 : decode cX9_leans 46 = .ok (.aload_n 0, 1) := by decide +kernel
theorem dX9_leans_47 : decode cX9_leans 47 = .ok (.getfield 42, 3) := by decide +kernel
theorem dX9_leans_50 : decode cX9_leans 50 = .ok (.iload 4, 2) := by decide +kernel
theorem dX9_leans_52 : decode cX9_leans 52 = .ok (.aaload, 1) := by decide +kernel
theorem dX9_leans_53 : decode cX9_leans 53 = .ok (.iload_n 2, 1) := by decide +kernel
theorem dX9_leans_54 : decode cX9_leans 54 = .ok (.invokevirtual 199, 3) := by decide +kernel
theorem dX9_leans_57 : decode cX9_leans 57 = .ok (.ifCond .eq 6, 3) := by decide +kernel
theorem dX9_leans_60 : decode cX9_leans 60 = .ok (.iinc 3 1, 3) := by decide +kernel
theorem dX9_leans_63 : decode cX9_leans 63 = .ok (.iinc 4 1, 3) := by decide +kernel
theorem dX9_leans_66 : decode cX9_leans 66 = .ok (.goto (-44), 3) := by decide +kernel
theorem dX9_leans_69 : decode cX9_leans 69 = .ok (.iload_n 3, 1) := by decide +kernel
theorem dX9_leans_70 : decode cX9_leans 70 = .ok (.ireturn, 1) := by decide +kernel
set_option maxRecDepth 20000 in
theorem ggX9_takings_X9_isBar : GoodIn wsX9_takings wsX9_isBar := goodIn_r _ [5, 6, 7, 4, 8] (by decide +kernel) (by decide +kernel)
set_option maxRecDepth 20000 in
theorem gX9_takings_X9_isBar : GoodIn wsX9_takings (va_wsS RX9 133 yX9_isBar wsX9_isBar) := goodIn_app (goodIn_of _ (by decide +kernel)) ggX9_takings_X9_isBar
theorem dX9_takings_0 : decode cX9_takings 0 = .ok (.iload_n 1, 1) := by decide +kernel
theorem dX9_takings_1 : decode cX9_takings 1 = .ok (.invokestatic 133, 3) := by decide +kernel
theorem dX9_takings_4 : decode cX9_takings 4 = .ok (.ifCond .eq 12, 3) := by decide +kernel
theorem dX9_takings_7 : decode cX9_takings 7 = .ok (.aload_n 0, 1) := by decide +kernel
theorem dX9_takings_8 : decode cX9_takings 8 = .ok (.getfield 56, 3) := by decide +kernel
theorem dX9_takings_11 : decode cX9_takings 11 = .ok (.iload_n 1, 1) := by decide +kernel
theorem dX9_takings_12 : decode cX9_takings 12 = .ok (.iaload, 1) := by decide +kernel
theorem dX9_takings_13 : decode cX9_takings 13 = .ok (.goto 4, 3) := by decide +kernel
theorem dX9_takings_16 : decode cX9_takings 16 = .ok (.iconst (-1), 1) := by decide +kernel
theorem dX9_takings_17 : decode cX9_takings 17 = .ok (.ireturn, 1) := by decide +kernel
set_option maxRecDepth 20000 in
theorem ggX9_foretell_X9_isIn : GoodIn wsX9_foretell wsX9_isIn := goodIn_r _ [6] (by decide +kernel) (by decide +kernel)
set_option maxRecDepth 20000 in
theorem gX9_foretell_X9_isIn : GoodIn wsX9_foretell (va_wsS RX9 93 yX9_isIn wsX9_isIn) := goodIn_app (goodIn_of _ (by decide +kernel)) ggX9_foretell_X9_isIn
set_option maxRecDepth 20000 in
theorem ggX9_foretell_X3_add : GoodIn wsX9_foretell wsX3_add := goodIn_r _ [11, 12, 13, 14, 29, 30, 31] (by decide +kernel) (by decide +kernel)
set_option maxRecDepth 20000 in
theorem gX9_foretell_X3_add : GoodIn wsX9_foretell (wsV RX9 229 RX3 yX3_add wsX3_add) := goodIn_app (goodIn_of _ (by decide +kernel)) ggX9_foretell_X3_add
theorem dX9_foretell_0 : decode cX9_foretell 0 = .ok (.iload_n 1, 1) := by decide +kernel
theorem dX9_foretell_1 : decode cX9_foretell 1 = .ok (.iconst 0, 1) := by decide +kernel
theorem dX9_foretell_2 : decode cX9_foretell 2 = .ok (.sipush 200, 3) := by decide +kernel
theorem dX9_foretell_5 : decode cX9_foretell 5 = .ok (.invokestatic 93, 3) := by decide +kernel
theorem dX9_foretell_8 : decode cX9_foretell 8 = .ok (.ifCond .eq 13, 3) := by decide +kernel
theorem dX9_foretell_11 : decode cX9_foretell 11 = .ok (.iload_n 2, 1) := by decide +kernel
theorem dX9_foretell_12 : decode cX9_foretell 12 = .ok (.iconst 1, 1) := by decide +kernel
theorem dX9_foretell_13 : decode cX9_foretell 13 = .ok (.bipush 100, 2) := by decide +kernel
theorem dX9_foretell_15 : decode cX9_foretell 15 = .ok (.invokestatic 93, 3) := by decide +kernel
theorem dX9_foretell_18 : decode cX9_foretell 18 = .ok (.ifCond .ne 5, 3) := by decide +kernel
theorem dX9_foretell_21 : decode cX9_foretell 21 = .ok (.iconst (-1), 1) := by decide +kernel
theorem dX9_foretell_22 : decode cX9_foretell 22 = .ok (.ireturn, 1) := by decide +kernel
theorem dX9_foretell_23 : decode cX9_foretell 23 = .ok (.aload_n 0, 1) := by decide +kernel
theorem dX9_foretell_24 : decode cX9_foretell 24 = .ok (.getfield 62, 3) := by decide +kernel
theorem dX9_foretell_27 : decode cX9_foretell 27 = .ok (.getfield 226, 3) := by decide +kernel
theorem dX9_foretell_30 : decode cX9_foretell 30 = .ok (.bipush 8, 2) := by decide +kernel
theorem dX9_foretell_32 : decode cX9_foretell 32 = .ok (.if_icmp .lt 6, 3) := by decide +kernel
theorem dX9_foretell_35 : decode cX9_foretell 35 = .ok (.bipush (-3), 2) := by decide +kernel
theorem dX9_foretell_37 : decode cX9_foretell 37 = .ok (.ireturn, 1) := by decide +kernel
theorem dX9_foretell_38 : decode cX9_foretell 38 = .ok (.aload_n 0, 1) := by decide +kernel
theorem dX9_foretell_39 : decode cX9_foretell 39 = .ok (.getfield 62, 3) := by decide +kernel
theorem dX9_foretell_42 : decode cX9_foretell 42 = .ok (.iload_n 1, 1) := by decide +kernel
theorem dX9_foretell_43 : decode cX9_foretell 43 = .ok (.iload_n 2, 1) := by decide +kernel
theorem dX9_foretell_44 : decode cX9_foretell 44 = .ok (.invokevirtual 229, 3) := by decide +kernel
theorem dX9_foretell_47 : decode cX9_foretell 47 = .ok (.aload_n 0, 1) := by decide +kernel
theorem dX9_foretell_48 : decode cX9_foretell 48 = .ok (.getfield 62, 3) := by decide +kernel
theorem dX9_foretell_51 : decode cX9_foretell 51 = .ok (.getfield 226, 3) := by decide +kernel
theorem dX9_foretell_54 : decode cX9_foretell 54 = .ok (.ireturn, 1) := by decide +kernel
theorem dX9_forget_0 : decode cX9_forget 0 = .ok (.aload_n 0, 1) := by decide +kernel
theorem dX9_forget_1 : decode cX9_forget 1 = .ok (.getfield 62, 3) := by decide +kernel
theorem dX9_forget_4 : decode cX9_forget 4 = .ok (.getfield 226, 3) := by decide +kernel
theorem dX9_forget_7 : decode cX9_forget 7 = .ok (.istore_n 1, 1) := by decide +kernel
theorem dX9_forget_8 : decode cX9_forget 8 = .ok (.aload_n 0, 1) := by decide +kernel
theorem dX9_forget_9 : decode cX9_forget 9 = .ok (.getfield 62, 3) := by decide +kernel
theorem dX9_forget_12 : decode cX9_forget 12 = .ok (.iconst 0, 1) := by decide +kernel
theorem dX9_forget_13 : decode cX9_forget 13 = .ok (.putfield 226, 3) := by decide +kernel
theorem dX9_forget_16 : decode cX9_forget 16 = .ok (.iload_n 1, 1) := by decide +kernel
theorem dX9_forget_17 : decode cX9_forget 17 = .ok (.ireturn, 1) := by decide +kernel
set_option maxRecDepth 20000 in
theorem ggX9_press_X9_isIn : GoodIn wsX9_press wsX9_isIn := goodIn_r _ [7] (by decide +kernel) (by decide +kernel)
set_option maxRecDepth 20000 in
theorem gX9_press_X9_isIn : GoodIn wsX9_press (va_wsS RX9 93 yX9_isIn wsX9_isIn) := goodIn_app (goodIn_of _ (by decide +kernel)) ggX9_press_X9_isIn
set_option maxRecDepth 20000 in
theorem ggX9_press_X3_par : GoodIn wsX9_press wsX3_par := goodIn_r _ [12, 13, 14, 15, 11, 16, 17, 18, 19, 20, 21, 22, 23, 39, 40, 41] (by decide +kernel) (by decide +kernel)
set_option maxRecDepth 20000 in
theorem gX9_press_X3_par : GoodIn wsX9_press (wsV RX9 233 RX3 yX3_par wsX3_par) := goodIn_app (goodIn_of _ (by decide +kernel)) ggX9_press_X3_par
set_option maxRecDepth 20000 in
theorem ggX9_press_X3_costOf : GoodIn wsX9_press wsX3_costOf := goodIn_r _ [16, 17, 18, 19, 20, 21, 22, 23, 39, 40, 41] (by decide +kernel) (by decide +kernel)
set_option maxRecDepth 20000 in
theorem gX9_press_X3_costOf : GoodIn wsX9_press (wsV RX9 236 RX3 yX3_costOf wsX3_costOf) := goodIn_app (goodIn_of _ (by decide +kernel)) ggX9_press_X3_costOf
theorem dX9_press_0 : decode cX9_press 0 = .ok (.aload_n 0, 1) := by decide +kernel
theorem dX9_press_1 : decode cX9_press 1 = .ok (.getfield 62, 3) := by decide +kernel
theorem dX9_press_4 : decode cX9_press 4 = .ok (.getfield 226, 3) := by decide +kernel
theorem dX9_press_7 : decode cX9_press 7 = .ok (.ifCond .ne 6, 3) := by decide +kernel
theorem dX9_press_10 : decode cX9_press 10 = .ok (.bipush (-2), 2) := by decide +kernel
theorem dX9_press_12 : decode cX9_press 12 = .ok (.ireturn, 1) := by decide +kernel
theorem dX9_press_13 : decode cX9_press 13 = .ok (.iload_n 1, 1) := by decide +kernel
theorem dX9_press_14 : decode cX9_press 14 = .ok (.iconst (-1), 1) := by decide +kernel
theorem dX9_press_15 : decode cX9_press 15 = .ok (.sipush 200, 3) := by decide +kernel
theorem dX9_press_18 : decode cX9_press 18 = .ok (.invokestatic 93, 3) := by decide +kernel
theorem dX9_press_21 : decode cX9_press 21 = .ok (.ifCond .ne 5, 3) := by decide +kernel
theorem dX9_press_24 : decode cX9_press 24 = .ok (.iconst (-1), 1) := by decide +kernel
theorem dX9_press_25 : decode cX9_press 25 = .ok (.ireturn, 1) := by decide +kernel
theorem dX9_press_26 : decode cX9_press 26 = .ok (.aload_n 0, 1) := by decide +kernel
theorem dX9_press_27 : decode cX9_press 27 = .ok (.getfield 37, 3) := by decide +kernel
theorem dX9_press_30 : decode cX9_press 30 = .ok (.iconst 2, 1) := by decide +kernel
theorem dX9_press_31 : decode cX9_press 31 = .ok (.iaload, 1) := by decide +kernel
theorem dX9_press_32 : decode cX9_press 32 = .ok (.istore_n 2, 1) := by decide +kernel
theorem dX9_press_33 : decode cX9_press 33 = .ok (.aload_n 0, 1) := by decide +kernel
theorem dX9_press_34 : decode cX9_press 34 = .ok (.getfield 37, 3) := by decide +kernel
theorem dX9_press_37 : decode cX9_press 37 = .ok (.iconst 3, 1) := by decide +kernel
theorem dX9_press_38 : decode cX9_press 38 = .ok (.iaload, 1) := by decide +kernel
theorem dX9_press_39 : decode cX9_press 39 = .ok (.istore_n 3, 1) := by decide +kernel
theorem dX9_press_40 : decode cX9_press 40 = .ok (.iload_n 1, 1) := by decide +kernel
theorem dX9_press_41 : decode cX9_press 41 = .ok (.iconst (-1), 1) := by decide +kernel
theorem dX9_press_42 : decode cX9_press 42 = .ok (.if_icmp .ne 15, 3) := by decide +kernel
theorem dX9_press_45 : decode cX9_press 45 = .ok (.aload_n 0, 1) := by decide +kernel
theorem dX9_press_46 : decode cX9_press 46 = .ok (.getfield 62, 3) := by decide +kernel
theorem dX9_press_49 : decode cX9_press 49 = .ok (.iload_n 2, 1) := by decide +kernel
theorem dX9_press_50 : decode cX9_press 50 = .ok (.iload_n 3, 1) := by decide +kernel
theorem dX9_press_51 : decode cX9_press 51 = .ok (.invokevirtual 233, 3) := by decide +kernel
theorem dX9_press_54 : decode cX9_press 54 = .ok (.goto 13, 3) := by decide +kernel
theorem dX9_press_57 : decode cX9_press 57 = .ok (.aload_n 0, 1) := by decide +kernel
theorem dX9_press_58 : decode cX9_press 58 = .ok (.getfield 62, 3) := by decide +kernel
theorem dX9_press_61 : decode cX9_press 61 = .ok (.iload_n 1, 1) := by decide +kernel
theorem dX9_press_62 : decode cX9_press 62 = .ok (.iload_n 2, 1) := by decide +kernel
theorem dX9_press_63 : decode cX9_press 63 = .ok (.iload_n 3, 1) := by decide +kernel
theorem dX9_press_64 : decode cX9_press 64 = .ok (.invokevirtual 236, 3) := by decide +kernel
theorem dX9_press_67 : decode cX9_press 67 = .ok (.ireturn, 1) := by decide +kernel
set_option maxRecDepth 20000 in
theorem ggX9_makes_X9_allKinds : GoodIn wsX9_makes wsX9_allKinds := goodIn_r _ [5, 6, 22, 23, 24, 25, 26, 27, 28, 29, 30, 31, 32, 33, 34, 35] (by decide +kernel) (by decide +kernel)
set_option maxRecDepth 20000 in
theorem gX9_makes_X9_allKinds : GoodIn wsX9_makes (wsV RX9 239 RX9 yX9_allKinds wsX9_allKinds) := goodIn_app (goodIn_of _ (by decide +kernel)) ggX9_makes_X9_allKinds
set_option maxRecDepth 20000 in
theorem ggX9_makes_X9_isIn : GoodIn wsX9_makes wsX9_isIn := goodIn_r _ [9] (by decide +kernel) (by decide +kernel)
set_option maxRecDepth 20000 in
theorem gX9_makes_X9_isIn : GoodIn wsX9_makes (va_wsS RX9 93 yX9_isIn wsX9_isIn) := goodIn_app (goodIn_of _ (by decide +kernel)) ggX9_makes_X9_isIn
set_option maxRecDepth 20000 in
theorem ggX9_makes_X9_madeBy : GoodIn wsX9_makes wsX9_madeBy := goodIn_r _ [13, 14, 15, 16, 17, 18, 19, 20, 21, 22, 23, 24, 25, 26, 27, 28, 29, 30, 31, 32, 33, 34, 35, 36, 37, 38, 39] (by decide +kernel) (by decide +kernel)
set_option maxRecDepth 20000 in
theorem gX9_makes_X9_madeBy : GoodIn wsX9_makes (wsV RX9 242 RX9 yX9_madeBy wsX9_madeBy) := goodIn_app (goodIn_of _ (by decide +kernel)) ggX9_makes_X9_madeBy
theorem dX9_makes_0 : decode cX9_makes 0 = .ok (.iload_n 1, 1) := by decide +kernel
theorem dX9_makes_1 : decode cX9_makes 1 = .ok (.iconst 0, 1) := by decide +kernel
theorem dX9_makes_2 : decode cX9_makes 2 = .ok (.aload_n 0, 1) := by decide +kernel
theorem dX9_makes_3 : decode cX9_makes 3 = .ok (.invokevirtual 239, 3) := by decide +kernel
theorem dX9_makes_6 : decode cX9_makes 6 = .ok (.invokestatic 93, 3) := by decide +kernel
theorem dX9_makes_9 : decode cX9_makes 9 = .ok (.ifCond .eq 11, 3) := by decide +kernel
theorem dX9_makes_12 : decode cX9_makes 12 = .ok (.aload_n 0, 1) := by decide +kernel
theorem dX9_makes_13 : decode cX9_makes 13 = .ok (.iload_n 1, 1) := by decide +kernel
theorem dX9_makes_14 : decode cX9_makes 14 = .ok (.invokevirtual 242, 3) := by decide +kernel
theorem dX9_makes_17 : decode cX9_makes 17 = .ok (.goto 4, 3) := by decide +kernel
theorem dX9_makes_20 : decode cX9_makes 20 = .ok (.iconst (-1), 1) := by decide +kernel
theorem dX9_makes_21 : decode cX9_makes 21 = .ok (.ireturn, 1) := by decide +kernel
set_option maxRecDepth 20000 in
theorem ggX9_fewest_X9_isIn : GoodIn wsX9_fewest wsX9_isIn := goodIn_r _ [4] (by decide +kernel) (by decide +kernel)
set_option maxRecDepth 20000 in
theorem gX9_fewest_X9_isIn : GoodIn wsX9_fewest (va_wsS RX9 93 yX9_isIn wsX9_isIn) := goodIn_app (goodIn_of _ (by decide +kernel)) ggX9_fewest_X9_isIn
set_option maxRecDepth 20000 in
theorem ggX9_fewest_X9_allKinds : GoodIn wsX9_fewest wsX9_allKinds := goodIn_r _ [8, 9, 29, 30, 31, 32, 33, 34, 35, 36, 37, 38, 39, 40, 41, 42] (by decide +kernel) (by decide +kernel)
set_option maxRecDepth 20000 in
theorem gX9_fewest_X9_allKinds : GoodIn wsX9_fewest (wsV RX9 239 RX9 yX9_allKinds wsX9_allKinds) := goodIn_app (goodIn_of _ (by decide +kernel)) ggX9_fewest_X9_allKinds
set_option maxRecDepth 20000 in
theorem ggX9_fewest_J6_bitCount_0f7a4 : GoodIn wsX9_fewest wsJ6_bitCount_0f7a4 := goodIn_r _ [13, 14, 15, 16] (by decide +kernel) (by decide +kernel)
set_option maxRecDepth 20000 in
theorem gX9_fewest_J6_bitCount_0f7a4 : GoodIn wsX9_fewest (va_wsS RX9 246 yJ6_bitCount_0f7a4 wsJ6_bitCount_0f7a4) := goodIn_app (goodIn_of _ (by decide +kernel)) ggX9_fewest_J6_bitCount_0f7a4
set_option maxRecDepth 20000 in
theorem ggX9_fewest_X9_madeBy : GoodIn wsX9_fewest wsX9_madeBy := goodIn_r _ [20, 21, 22, 23, 24, 25, 26, 27, 28, 29, 30, 31, 32, 33, 34, 35, 36, 37, 38, 39, 40, 41, 42, 43, 44, 45, 46] (by decide +kernel) (by decide +kernel)
set_option maxRecDepth 20000 in
theorem gX9_fewest_X9_madeBy : GoodIn wsX9_fewest (wsV RX9 242 RX9 yX9_madeBy wsX9_madeBy) := goodIn_app (goodIn_of _ (by decide +kernel)) ggX9_fewest_X9_madeBy
theorem dX9_fewest_0 : decode cX9_fewest 0 = .ok (.iload_n 1, 1) := by decide +kernel
theorem dX9_fewest_1 : decode cX9_fewest 1 = .ok (.iconst 1, 1) := by decide +kernel
theorem dX9_fewest_2 : decode cX9_fewest 2 = .ok (.bipush 12, 2) := by decide +kernel
theorem dX9_fewest_4 : decode cX9_fewest 4 = .ok (.invokestatic 93, 3) := by decide +kernel
theorem dX9_fewest_7 : decode cX9_fewest 7 = .ok (.ifCond .ne 5, 3) := by decide +kernel
theorem dX9_fewest_10 : decode cX9_fewest 10 = .ok (.iconst (-1), 1) := by decide +kernel
theorem dX9_fewest_11 : decode cX9_fewest 11 = .ok (.ireturn, 1) := by decide +kernel
theorem dX9_fewest_12 : decode cX9_fewest 12 = .ok (.bipush (-4), 2) := by decide +kernel
theorem dX9_fewest_14 : decode cX9_fewest 14 = .ok (.istore_n 2, 1) := by decide +kernel
theorem dX9_fewest_15 : decode cX9_fewest 15 = .ok (.iconst 0, 1) := by decide +kernel
theorem dX9_fewest_16 : decode cX9_fewest 16 = .ok (.istore_n 3, 1) := by decide +kernel
theorem dX9_fewest_17 : decode cX9_fewest 17 = .ok (.iload_n 3, 1) := by decide +kernel
theorem dX9_fewest_18 : decode cX9_fewest 18 = .ok (.aload_n 0, 1) := by decide +kernel
theorem dX9_fewest_19 : decode cX9_fewest 19 = .ok (.invokevirtual 239, 3) := by decide +kernel
theorem dX9_fewest_22 : decode cX9_fewest 22 = .ok (.if_icmp .gt 49, 3) := by decide +kernel
theorem dX9_fewest_25 : decode cX9_fewest 25 = .ok (.iload_n 2, 1) := by decide +kernel
theorem dX9_fewest_26 : decode cX9_fewest 26 = .ok (.bipush (-4), 2) := by decide +kernel
theorem dX9_fewest_28 : decode cX9_fewest 28 = .ok (.if_icmp .eq 14, 3) := by decide +kernel
theorem dX9_fewest_31 : decode cX9_fewest 31 = .ok (.iload_n 3, 1) := by decide +kernel
theorem dX9_fewest_32 : decode cX9_fewest 32 = .ok (.invokestatic 246, 3) := by decide +kernel
theorem dX9_fewest_35 : decode cX9_fewest 35 = .ok (.iload_n 2, 1) := by decide +kernel
theorem dX9_fewest_36 : decode cX9_fewest 36 = .ok (.invokestatic 246, 3) := by decide +kernel
theorem dX9_fewest_39 : decode cX9_fewest 39 = .ok (.if_icmp .ge 7, 3) := by decide +kernel
theorem dX9_fewest_42 : decode cX9_fewest 42 = .ok (.iconst 1, 1) := by decide +kernel
theorem dX9_fewest_43 : decode cX9_fewest 43 = .ok (.goto 4, 3) := by decide +kernel
theorem dX9_fewest_46 : decode cX9_fewest 46 = .ok (.iconst 0, 1) := by decide +kernel
theorem dX9_fewest_47 : decode cX9_fewest 47 = .ok (.istore 4, 2) := by decide +kernel
theorem dX9_fewest_49 : decode cX9_fewest 49 = .ok (.iload 4, 2) := by decide +kernel
theorem dX9_fewest_51 : decode cX9_fewest 51 = .ok (.ifCond .eq 14, 3) := by decide +kernel
theorem dX9_fewest_54 : decode cX9_fewest 54 = .ok (.aload_n 0, 1) := by decide +kernel
theorem dX9_fewest_55 : decode cX9_fewest 55 = .ok (.iload_n 3, 1) := by decide +kernel
theorem dX9_fewest_56 : decode cX9_fewest 56 = .ok (.invokevirtual 242, 3) := by decide +kernel
theorem dX9_fewest_59 : decode cX9_fewest 59 = .ok (.iload_n 1, 1) := by decide +kernel
theorem dX9_fewest_60 : decode cX9_fewest 60 = .ok (.if_icmp .lt 5, 3) := by decide +kernel
theorem dX9_fewest_63 : decode cX9_fewest 63 = .ok (.iload_n 3, 1) := by decide +kernel
theorem dX9_fewest_64 : decode cX9_fewest 64 = .ok (.istore_n 2, 1) := by decide +kernel
theorem dX9_fewest_65 : decode cX9_fewest 65 = .ok (.iinc 3 1, 3) := by decide +kernel
theorem dX9_fewest_68 : decode cX9_fewest 68 = .ok (.goto (-51), 3) := by decide +kernel
theorem dX9_fewest_71 : decode cX9_fewest 71 = .ok (.iload_n 2, 1) := by decide +kernel
theorem dX9_fewest_72 : decode cX9_fewest 72 = .ok (.ireturn, 1) := by decide +kernel
set_option maxRecDepth 20000 in
theorem ggX9_most_X9_isIn : GoodIn wsX9_most wsX9_isIn := goodIn_r _ [5] (by decide +kernel) (by decide +kernel)
set_option maxRecDepth 20000 in
theorem gX9_most_X9_isIn : GoodIn wsX9_most (va_wsS RX9 93 yX9_isIn wsX9_isIn) := goodIn_app (goodIn_of _ (by decide +kernel)) ggX9_most_X9_isIn
set_option maxRecDepth 20000 in
theorem ggX9_most_X9_allKinds : GoodIn wsX9_most wsX9_allKinds := goodIn_r _ [9, 1, 29, 30, 31, 32, 33, 34, 35, 36, 37, 38, 39, 40, 41, 42] (by decide +kernel) (by decide +kernel)
set_option maxRecDepth 20000 in
theorem gX9_most_X9_allKinds : GoodIn wsX9_most (wsV RX9 239 RX9 yX9_allKinds wsX9_allKinds) := goodIn_app (goodIn_of _ (by decide +kernel)) ggX9_most_X9_allKinds
set_option maxRecDepth 20000 in
theorem ggX9_most_J6_bitCount_0f7a4 : GoodIn wsX9_most wsJ6_bitCount_0f7a4 := goodIn_r _ [13, 14, 15, 16] (by decide +kernel) (by decide +kernel)
set_option maxRecDepth 20000 in
theorem gX9_most_J6_bitCount_0f7a4 : GoodIn wsX9_most (va_wsS RX9 246 yJ6_bitCount_0f7a4 wsJ6_bitCount_0f7a4) := goodIn_app (goodIn_of _ (by decide +kernel)) ggX9_most_J6_bitCount_0f7a4
set_option maxRecDepth 20000 in
theorem ggX9_most_X9_madeBy : GoodIn wsX9_most wsX9_madeBy := goodIn_r _ [20, 21, 22, 23, 24, 25, 26, 27, 28, 29, 30, 31, 32, 33, 34, 35, 36, 37, 38, 39, 40, 41, 42, 43, 44, 45, 46] (by decide +kernel) (by decide +kernel)
set_option maxRecDepth 20000 in
theorem gX9_most_X9_madeBy : GoodIn wsX9_most (wsV RX9 242 RX9 yX9_madeBy wsX9_madeBy) := goodIn_app (goodIn_of _ (by decide +kernel)) ggX9_most_X9_madeBy
theorem dX9_most_0 : decode cX9_most 0 = .ok (.iload_n 1, 1) := by decide +kernel
theorem dX9_most_1 : decode cX9_most 1 = .ok (.iconst 0, 1) := by decide +kernel
theorem dX9_most_2 : decode cX9_most 2 = .ok (.aload_n 0, 1) := by decide +kernel
theorem dX9_most_3 : decode cX9_most 3 = .ok (.getfield 15, 3) := by decide +kernel
theorem dX9_most_6 : decode cX9_most 6 = .ok (.invokestatic 93, 3) := by decide +kernel
theorem dX9_most_9 : decode cX9_most 9 = .ok (.ifCond .ne 5, 3) := by decide +kernel
theorem dX9_most_12 : decode cX9_most 12 = .ok (.iconst (-1), 1) := by decide +kernel
theorem dX9_most_13 : decode cX9_most 13 = .ok (.ireturn, 1) := by decide +kernel
theorem dX9_most_14 : decode cX9_most 14 = .ok (.iconst 0, 1) := by decide +kernel
theorem dX9_most_15 : decode cX9_most 15 = .ok (.istore_n 2, 1) := by decide +kernel
theorem dX9_most_16 : decode cX9_most 16 = .ok (.iconst (-1), 1) := by decide +kernel
theorem dX9_most_17 : decode cX9_most 17 = .ok (.istore_n 3, 1) := by decide +kernel
theorem dX9_most_18 : decode cX9_most 18 = .ok (.iconst 0, 1) := by decide +kernel
theorem dX9_most_19 : decode cX9_most 19 = .ok (.istore 4, 2) := by decide +kernel
theorem dX9_most_21 : decode cX9_most 21 = .ok (.iload 4, 2) := by decide +kernel
theorem dX9_most_23 : decode cX9_most 23 = .ok (.aload_n 0, 1) := by decide +kernel
theorem dX9_most_24 : decode cX9_most 24 = .ok (.invokevirtual 239, 3) := by decide +kernel
theorem dX9_most_27 : decode cX9_most 27 = .ok (.if_icmp .gt 42, 3) := by decide +kernel
theorem dX9_most_30 : decode cX9_most 30 = .ok (.iload 4, 2) := by decide +kernel
theorem dX9_most_32 : decode cX9_most 32 = .ok (.invokestatic 246, 3) := by decide +kernel
theorem dX9_most_35 : decode cX9_most 35 = .ok (.iload_n 1, 1) := by decide +kernel
theorem dX9_most_36 : decode cX9_most 36 = .ok (.if_icmp .ne 12, 3) := by decide +kernel
theorem dX9_most_39 : decode cX9_most 39 = .ok (.aload_n 0, 1) := by decide +kernel
theorem dX9_most_40 : decode cX9_most 40 = .ok (.iload 4, 2) := by decide +kernel
theorem dX9_most_42 : decode cX9_most 42 = .ok (.invokevirtual 242, 3) := by decide +kernel
theorem dX9_most_45 : decode cX9_most 45 = .ok (.goto 4, 3) := by decide +kernel
theorem dX9_most_48 : decode cX9_most 48 = .ok (.iconst (-1), 1) := by decide +kernel
theorem dX9_most_49 : decode cX9_most 49 = .ok (.istore 5, 2) := by decide +kernel
theorem dX9_most_51 : decode cX9_most 51 = .ok (.iload 5, 2) := by decide +kernel
theorem dX9_most_53 : decode cX9_most 53 = .ok (.iload_n 3, 1) := by decide +kernel
theorem dX9_most_54 : decode cX9_most 54 = .ok (.if_icmp .le 9, 3) := by decide +kernel
theorem dX9_most_57 : decode cX9_most 57 = .ok (.iload 4, 2) := by decide +kernel
theorem dX9_most_59 : decode cX9_most 59 = .ok (.istore_n 2, 1) := by decide +kernel
theorem dX9_most_60 : decode cX9_most 60 = .ok (.iload 5, 2) := by decide +kernel
theorem dX9_most_62 : decode cX9_most 62 = .ok (.istore_n 3, 1) := by decide +kernel
theorem dX9_most_63 : decode cX9_most 63 = .ok (.iinc 4 1, 3) := by decide +kernel
theorem dX9_most_66 : decode cX9_most 66 = .ok (.goto (-45), 3) := by decide +kernel
theorem dX9_most_69 : decode cX9_most 69 = .ok (.iload_n 2, 1) := by decide +kernel
theorem dX9_most_70 : decode cX9_most 70 = .ok (.ireturn, 1) := by decide +kernel
set_option maxRecDepth 20000 in
theorem ggX9_priceRule_X9_isIn : GoodIn wsX9_priceRule wsX9_isIn := goodIn_r _ [10] (by decide +kernel) (by decide +kernel)
set_option maxRecDepth 20000 in
theorem gX9_priceRule_X9_isIn : GoodIn wsX9_priceRule (va_wsS RX9 93 yX9_isIn wsX9_isIn) := goodIn_app (goodIn_of _ (by decide +kernel)) ggX9_priceRule_X9_isIn
theorem dX9_priceRule_0 : decode cX9_priceRule 0 = .ok (.iload_n 2, 1) := by decide +kernel
theorem dX9_priceRule_1 : decode cX9_priceRule 1 = .ok (.iconst 0, 1) := by decide +kernel
theorem dX9_priceRule_2 : decode cX9_priceRule 2 = .ok (.sipush 1439, 3) := by decide +kernel
theorem dX9_priceRule_5 : decode cX9_priceRule 5 = .ok (.invokestatic 93, 3) := by decide +kernel
theorem dX9_priceRule_8 : decode cX9_priceRule 8 = .ok (.ifCond .eq 18, 3) := by decide +kernel
theorem dX9_priceRule_11 : decode cX9_priceRule 11 = .ok (.iload_n 3, 1) := by decide +kernel
theorem dX9_priceRule_12 : decode cX9_priceRule 12 = .ok (.iconst 0, 1) := by decide +kernel
theorem dX9_priceRule_13 : decode cX9_priceRule 13 = .ok (.sipush 1439, 3) := by decide +kernel
theorem dX9_priceRule_16 : decode cX9_priceRule 16 = .ok (.invokestatic 93, 3) := by decide +kernel
theorem dX9_priceRule_19 : decode cX9_priceRule 19 = .ok (.ifCond .eq 7, 3) := by decide +kernel
theorem dX9_priceRule_22 : decode cX9_priceRule 22 = .ok (.iconst 1, 1) := by decide +kernel
theorem dX9_priceRule_23 : decode cX9_priceRule 23 = .ok (.goto 4, 3) := by decide +kernel
theorem dX9_priceRule_26 : decode cX9_priceRule 26 = .ok (.iconst 0, 1) := by decide +kernel
theorem dX9_priceRule_27 : decode cX9_priceRule 27 = .ok (.istore 5, 2) := by decide +kernel
theorem dX9_priceRule_29 : decode cX9_priceRule 29 = .ok (.iload_n 1, 1) := by decide +kernel
theorem dX9_priceRule_30 : decode cX9_priceRule 30 = .ok (.iconst 0, 1) := by decide +kernel
theorem dX9_priceRule_31 : decode cX9_priceRule 31 = .ok (.bipush 127, 2) := by decide +kernel
theorem dX9_priceRule_33 : decode cX9_priceRule 33 = .ok (.invokestatic 93, 3) := by decide +kernel
theorem dX9_priceRule_36 : decode cX9_priceRule 36 = .ok (.ifCond .eq 20, 3) := by decide +kernel
theorem dX9_priceRule_39 : decode cX9_priceRule 39 = .ok (.iload 5, 2) := by decide +kernel
theorem dX9_priceRule_41 : decode cX9_priceRule 41 = .ok (.ifCond .eq 15, 3) := by decide +kernel
theorem dX9_priceRule_44 : decode cX9_priceRule 44 = .ok (.iload 4, 2) := by decide +kernel
theorem dX9_priceRule_46 : decode cX9_priceRule 46 = .ok (.iconst 0, 1) := by decide +kernel
theorem dX9_priceRule_47 : decode cX9_priceRule 47 = .ok (.sipush 200, 3) := by decide +kernel
theorem dX9_priceRule_50 : decode cX9_priceRule 50 = .ok (.invokestatic 93, 3) := by decide +kernel
theorem dX9_priceRule_53 : decode cX9_priceRule 53 = .ok (.ifCond .ne 5, 3) := by decide +kernel
theorem dX9_priceRule_56 : decode cX9_priceRule 56 = .ok (.iconst (-1), 1) := by decide +kernel
theorem dX9_priceRule_57 : decode cX9_priceRule 57 = .ok (.ireturn, 1) := by decide +kernel
theorem dX9_priceRule_58 : decode cX9_priceRule 58 = .ok (.aload_n 0, 1) := by decide +kernel
theorem dX9_priceRule_59 : decode cX9_priceRule 59 = .ok (.getfield 72, 3) := by decide +kernel
theorem dX9_priceRule_62 : decode cX9_priceRule 62 = .ok (.bipush 12, 2) := by decide +kernel
theorem dX9_priceRule_64 : decode cX9_priceRule 64 = .ok (.if_icmp .lt 6, 3) := by decide +kernel
theorem dX9_priceRule_67 : decode cX9_priceRule 67 = .ok (.bipush (-3), 2) := by decide +kernel
theorem dX9_priceRule_69 : decode cX9_priceRule 69 = .ok (.ireturn, 1) := by decide +kernel
theorem dX9_priceRule_70 : decode cX9_priceRule 70 = .ok (.aload_n 0, 1) := by decide +kernel
theorem dX9_priceRule_71 : decode cX9_priceRule 71 = .ok (.getfield 68, 3) := by decide +kernel
theorem dX9_priceRule_74 : decode cX9_priceRule 74 = .ok (.aload_n 0, 1) := by decide +kernel
theorem dX9_priceRule_75 : decode cX9_priceRule 75 = .ok (.getfield 72, 3) := by decide +kernel
theorem dX9_priceRule_78 : decode cX9_priceRule 78 = .ok (.aaload, 1) := by decide +kernel
theorem dX9_priceRule_79 : decode cX9_priceRule 79 = .ok (.astore 6, 2) := by decide +kernel
theorem dX9_priceRule_81 : decode cX9_priceRule 81 = .ok (.aload 6, 2) := by decide +kernel
theorem dX9_priceRule_83 : decode cX9_priceRule 83 = .ok (.iload_n 1, 1) := by decide +kernel
theorem dX9_priceRule_84 : decode cX9_priceRule 84 = .ok (.putfield 251, 3) := by decide +kernel
theorem dX9_priceRule_87 : decode cX9_priceRule 87 = .ok (.aload 6, 2) := by decide +kernel
theorem dX9_priceRule_89 : decode cX9_priceRule 89 = .ok (.iload_n 2, 1) := by decide +kernel
theorem dX9_priceRule_90 : decode cX9_priceRule 90 = .ok (.putfield 254, 3) := by decide +kernel
theorem dX9_priceRule_93 : decode cX9_priceRule 93 = .ok (.aload 6, 2) := by decide +kernel
theorem dX9_priceRule_95 : decode cX9_priceRule 95 = .ok (.iload_n 3, 1) := by decide +kernel
theorem dX9_priceRule_96 : decode cX9_priceRule 96 = .ok (.putfield 257, 3) := by decide +kernel
theorem dX9_priceRule_99 : decode cX9_priceRule 99 = .ok (.aload 6, 2) := by decide +kernel
theorem dX9_priceRule_101 : decode cX9_priceRule 101 = .ok (.iload 4, 2) := by decide +kernel
theorem dX9_priceRule_103 : decode cX9_priceRule 103 = .ok (.putfield 260, 3) := by decide +kernel
theorem dX9_priceRule_106 : decode cX9_priceRule 106 = .ok (.aload_n 0, 1) := by decide +kernel
theorem dX9_priceRule_107 : decode cX9_priceRule 107 = .ok (.dup, 1) := by decide +kernel
theorem dX9_priceRule_108 : decode cX9_priceRule 108 = .ok (.getfield 72, 3) := by decide +kernel
theorem dX9_priceRule_111 : decode cX9_priceRule 111 = .ok (.iconst 1, 1) := by decide +kernel
theorem dX9_priceRule_112 : decode cX9_priceRule 112 = .ok (.iadd, 1) := by decide +kernel
theorem dX9_priceRule_113 : decode cX9_priceRule 113 = .ok (.putfield 72, 3) := by decide +kernel
theorem dX9_priceRule_116 : decode cX9_priceRule 116 = .ok (.aload_n 0, 1) := by decide +kernel
theorem dX9_priceRule_117 : decode cX9_priceRule 117 = .ok (.getfield 72, 3) := by decide +kernel
theorem dX9_priceRule_120 : decode cX9_priceRule 120 = .ok (.ireturn, 1) := by decide +kernel
set_option maxRecDepth 20000 in
theorem ggX9_price_X9_isRecipe : GoodIn wsX9_price wsX9_isRecipe := goodIn_r _ [5, 6, 7, 8, 4, 9, 39, 40, 41, 42, 43, 44, 45, 46, 47, 48, 49, 50, 51, 52] (by decide +kernel) (by decide +kernel)
set_option maxRecDepth 20000 in
theorem gX9_price_X9_isRecipe : GoodIn wsX9_price (wsV RX9 109 RX9 yX9_isRecipe wsX9_isRecipe) := goodIn_app (goodIn_of _ (by decide +kernel)) ggX9_price_X9_isRecipe
set_option maxRecDepth 20000 in
theorem ggX9_price_X9_isTime : GoodIn wsX9_price wsX9_isTime := goodIn_r _ [12, 7, 8, 4, 9] (by decide +kernel) (by decide +kernel)
set_option maxRecDepth 20000 in
theorem gX9_price_X9_isTime : GoodIn wsX9_price (va_wsS RX9 141 yX9_isTime wsX9_isTime) := goodIn_app (goodIn_of _ (by decide +kernel)) ggX9_price_X9_isTime
set_option maxRecDepth 20000 in
theorem ggX9_price_X9_priceAt : GoodIn wsX9_price wsX9_priceAt := goodIn_r _ [16, 17, 18, 19, 20, 21, 22, 23, 24, 25, 26, 27, 28, 29, 30, 31, 32, 33, 34, 35, 36, 37, 38, 39, 40, 41, 42, 43, 44, 45, 46, 47, 48, 49, 50, 51, 52, 53, 54, 55, 56, 57, 58, 59, 60] (by decide +kernel) (by decide +kernel)
set_option maxRecDepth 20000 in
theorem gX9_price_X9_priceAt : GoodIn wsX9_price (wsV RX9 145 RX9 yX9_priceAt wsX9_priceAt) := goodIn_app (goodIn_of _ (by decide +kernel)) ggX9_price_X9_priceAt
theorem dX9_price_0 : decode cX9_price 0 = .ok (.aload_n 0, 1) := by decide +kernel
theorem dX9_price_1 : decode cX9_price 1 = .ok (.iload_n 1, 1) := by decide +kernel
theorem dX9_price_2 : decode cX9_price 2 = .ok (.invokevirtual 109, 3) := by decide +kernel
theorem dX9_price_5 : decode cX9_price 5 = .ok (.ifCond .eq 21, 3) := by decide +kernel
theorem dX9_price_8 : decode cX9_price 8 = .ok (.iload_n 2, 1) := by decide +kernel
theorem dX9_price_9 : decode cX9_price 9 = .ok (.iload_n 3, 1) := by decide +kernel
theorem dX9_price_10 : decode cX9_price 10 = .ok (.invokestatic 141, 3) := by decide +kernel
theorem dX9_price_13 : decode cX9_price 13 = .ok (.ifCond .eq 13, 3) := by decide +kernel
theorem dX9_price_16 : decode cX9_price 16 = .ok (.aload_n 0, 1) := by decide +kernel
theorem dX9_price_17 : decode cX9_price 17 = .ok (.iload_n 1, 1) := by decide +kernel
theorem dX9_price_18 : decode cX9_price 18 = .ok (.iload_n 2, 1) := by decide +kernel
theorem dX9_price_19 : decode cX9_price 19 = .ok (.iload_n 3, 1) := by decide +kernel
theorem dX9_price_20 : decode cX9_price 20 = .ok (.invokevirtual 145, 3) := by decide +kernel
theorem dX9_price_23 : decode cX9_price 23 = .ok (.goto 4, 3) := by decide +kernel
theorem dX9_price_26 : decode cX9_price 26 = .ok (.iconst (-1), 1) := by decide +kernel
theorem dX9_price_27 : decode cX9_price 27 = .ok (.ireturn, 1) := by decide +kernel
set_option maxRecDepth 20000 in
theorem ggX9_person_X9_isIn : GoodIn wsX9_person wsX9_isIn := goodIn_r _ [6] (by decide +kernel) (by decide +kernel)
set_option maxRecDepth 20000 in
theorem gX9_person_X9_isIn : GoodIn wsX9_person (va_wsS RX9 93 yX9_isIn wsX9_isIn) := goodIn_app (goodIn_of _ (by decide +kernel)) ggX9_person_X9_isIn
theorem dX9_person_0 : decode cX9_person 0 = .ok (.iload_n 1, 1) := by decide +kernel
theorem dX9_person_1 : decode cX9_person 1 = .ok (.iconst 0, 1) := by decide +kernel
theorem dX9_person_2 : decode cX9_person 2 = .ok (.iconst 5, 1) := by decide +kernel
theorem dX9_person_3 : decode cX9_person 3 = .ok (.invokestatic 93, 3) := by decide +kernel
theorem dX9_person_6 : decode cX9_person 6 = .ok (.ifCond .eq 24, 3) := by decide +kernel
theorem dX9_person_9 : decode cX9_person 9 = .ok (.iload_n 2, 1) := by decide +kernel
theorem dX9_person_10 : decode cX9_person 10 = .ok (.iconst 0, 1) := by decide +kernel
theorem dX9_person_11 : decode cX9_person 11 = .ok (.bipush 10, 2) := by decide +kernel
theorem dX9_person_13 : decode cX9_person 13 = .ok (.invokestatic 93, 3) := by decide +kernel
theorem dX9_person_16 : decode cX9_person 16 = .ok (.ifCond .eq 14, 3) := by decide +kernel
theorem dX9_person_19 : decode cX9_person 19 = .ok (.iload_n 3, 1) := by decide +kernel
theorem dX9_person_20 : decode cX9_person 20 = .ok (.iconst 0, 1) := by decide +kernel
theorem dX9_person_21 : decode cX9_person 21 = .ok (.sipush 1440, 3) := by decide +kernel
theorem dX9_person_24 : decode cX9_person 24 = .ok (.invokestatic 93, 3) := by decide +kernel
theorem dX9_person_27 : decode cX9_person 27 = .ok (.ifCond .ne 5, 3) := by decide +kernel
theorem dX9_person_30 : decode cX9_person 30 = .ok (.iconst (-1), 1) := by decide +kernel
theorem dX9_person_31 : decode cX9_person 31 = .ok (.ireturn, 1) := by decide +kernel
theorem dX9_person_32 : decode cX9_person 32 = .ok (.aload_n 0, 1) := by decide +kernel
theorem dX9_person_33 : decode cX9_person 33 = .ok (.getfield 78, 3) := by decide +kernel
theorem dX9_person_36 : decode cX9_person 36 = .ok (.getfield 263, 3) := by decide +kernel
theorem dX9_person_39 : decode cX9_person 39 = .ok (.iload_n 1, 1) := by decide +kernel
theorem dX9_person_40 : decode cX9_person 40 = .ok (.iload_n 2, 1) := by decide +kernel
theorem dX9_person_41 : decode cX9_person 41 = .ok (.iload_n 3, 1) := by decide +kernel
theorem dX9_person_42 : decode cX9_person 42 = .ok (.imul, 1) := by decide +kernel
