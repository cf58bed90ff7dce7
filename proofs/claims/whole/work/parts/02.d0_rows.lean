theorem dX0_init_0 : decode cX0_init 0 = .ok (.aload_n 0, 1) := by decide +kernel
theorem dX0_init_1 : decode cX0_init 1 = .ok (.invokespecial 1, 3) := by decide +kernel
theorem dX0_init_4 : decode cX0_init 4 = .ok (.aload_n 0, 1) := by decide +kernel
theorem dX0_init_5 : decode cX0_init 5 = .ok (.iconst 0, 1) := by decide +kernel
theorem dX0_init_6 : decode cX0_init 6 = .ok (.putfield 7, 3) := by decide +kernel
theorem dX0_init_9 : decode cX0_init 9 = .ok (.aload_n 0, 1) := by decide +kernel
theorem dX0_init_10 : decode cX0_init 10 = .ok (.iconst 0, 1) := by decide +kernel
theorem dX0_init_11 : decode cX0_init 11 = .ok (.putfield 13, 3) := by decide +kernel
theorem dX0_init_14 : decode cX0_init 14 = .ok (.aload_n 0, 1) := by decide +kernel
theorem dX0_init_15 : decode cX0_init 15 = .ok (.iconst 0, 1) := by decide +kernel
theorem dX0_init_16 : decode cX0_init 16 = .ok (.putfield 16, 3) := by decide +kernel
theorem dX0_init_19 : decode cX0_init 19 = .ok (.aload_n 0, 1) := by decide +kernel
theorem dX0_init_20 : decode cX0_init 20 = .ok (.iconst 0, 1) := by decide +kernel
theorem dX0_init_21 : decode cX0_init 21 = .ok (.putfield 19, 3) := by decide +kernel
theorem dX0_init_24 : decode cX0_init 24 = .ok (.aload_n 0, 1) := by decide +kernel
theorem dX0_init_25 : decode cX0_init 25 = .ok (.iconst 0, 1) := by decide +kernel
theorem dX0_init_26 : decode cX0_init 26 = .ok (.putfield 22, 3) := by decide +kernel
theorem dX0_init_29 : decode cX0_init 29 = .ok (.return_, 1) := by decide +kernel
set_option maxRecDepth 20000 in
theorem ggX1_init_X0_init : GoodIn wsX1_init wsX0_init := goodIn_r _ [11, 12, 2, 3, 13, 14, 15, 16, 17, 21, 22, 23, 24, 25] (by decide +kernel) (by decide +kernel)
set_option maxRecDepth 20000 in
theorem gX1_init_X0_init_n24 : GoodIn wsX1_init (wsX0_init) := ggX1_init_X0_init
theorem dX1_init_0 : decode cX1_init 0 = .ok (.aload_n 0, 1) := by decide +kernel
theorem dX1_init_1 : decode cX1_init 1 = .ok (.invokespecial 3, 3) := by decide +kernel
theorem dX1_init_4 : decode cX1_init 4 = .ok (.aload_n 0, 1) := by decide +kernel
theorem dX1_init_5 : decode cX1_init 5 = .ok (.bipush 40, 2) := by decide +kernel
theorem dX1_init_7 : decode cX1_init 7 = .ok (.anewarray 9, 3) := by decide +kernel
theorem dX1_init_10 : decode cX1_init 10 = .ok (.putfield 11, 3) := by decide +kernel
theorem dX1_init_13 : decode cX1_init 13 = .ok (.aload_n 0, 1) := by decide +kernel
theorem dX1_init_14 : decode cX1_init 14 = .ok (.iconst 0, 1) := by decide +kernel
theorem dX1_init_15 : decode cX1_init 15 = .ok (.putfield 17, 3) := by decide +kernel
theorem dX1_init_18 : decode cX1_init 18 = .ok (.aload_n 0, 1) := by decide +kernel
theorem dX1_init_19 : decode cX1_init 19 = .ok (.iconst 0, 1) := by decide +kernel
theorem dX1_init_20 : decode cX1_init 20 = .ok (.putfield 21, 3) := by decide +kernel
theorem dX1_init_23 : decode cX1_init 23 = .ok (.iconst 0, 1) := by decide +kernel
theorem dX1_init_24 : decode cX1_init 24 = .ok (.istore_n 1, 1) := by decide +kernel
theorem dX1_init_25 : decode cX1_init 25 = .ok (.iload_n 1, 1) := by decide +kernel
theorem dX1_init_26 : decode cX1_init 26 = .ok (.aload_n 0, 1) := by decide +kernel
theorem dX1_init_27 : decode cX1_init 27 = .ok (.getfield 11, 3) := by decide +kernel
theorem dX1_init_30 : decode cX1_init 30 = .ok (.arraylength, 1) := by decide +kernel
theorem dX1_init_31 : decode cX1_init 31 = .ok (.if_icmp .ge 22, 3) := by decide +kernel
theorem dX1_init_34 : decode cX1_init 34 = .ok (.aload_n 0, 1) := by decide +kernel
theorem dX1_init_35 : decode cX1_init 35 = .ok (.getfield 11, 3) := by decide +kernel
theorem dX1_init_38 : decode cX1_init 38 = .ok (.iload_n 1, 1) := by decide +kernel
theorem dX1_init_39 : decode cX1_init 39 = .ok (.new 9, 3) := by decide +kernel
theorem dX1_init_42 : decode cX1_init 42 = .ok (.dup, 1) := by decide +kernel
theorem dX1_init_43 : decode cX1_init 43 = .ok (.invokespecial 24, 3) := by decide +kernel
theorem dX1_init_46 : decode cX1_init 46 = .ok (.aastore, 1) := by decide +kernel
theorem dX1_init_47 : decode cX1_init 47 = .ok (.iinc 1 1, 3) := by decide +kernel
theorem dX1_init_50 : decode cX1_init 50 = .ok (.goto (-25), 3) := by decide +kernel
theorem dX1_init_53 : decode cX1_init 53 = .ok (.return_, 1) := by decide +kernel
theorem dX1_nextRow_0 : decode cX1_nextRow 0 = .ok (.aload_n 0, 1) := by decide +kernel
theorem dX1_nextRow_1 : decode cX1_nextRow 1 = .ok (.getfield 11, 3) := by decide +kernel
theorem dX1_nextRow_4 : decode cX1_nextRow 4 = .ok (.aload_n 0, 1) := by decide +kernel
theorem dX1_nextRow_5 : decode cX1_nextRow 5 = .ok (.getfield 21, 3) := by decide +kernel
theorem dX1_nextRow_8 : decode cX1_nextRow 8 = .ok (.aaload, 1) := by decide +kernel
theorem dX1_nextRow_9 : decode cX1_nextRow 9 = .ok (.astore_n 1, 1) := by decide +kernel
theorem dX1_nextRow_10 : decode cX1_nextRow 10 = .ok (.aload_n 0, 1) := by decide +kernel
theorem dX1_nextRow_11 : decode cX1_nextRow 11 = .ok (.aload_n 0, 1) := by decide +kernel
theorem dX1_nextRow_12 : decode cX1_nextRow 12 = .ok (.getfield 21, 3) := by decide +kernel
theorem dX1_nextRow_15 : decode cX1_nextRow 15 = .ok (.iconst 1, 1) := by decide +kernel
theorem dX1_nextRow_16 : decode cX1_nextRow 16 = .ok (.iadd, 1) := by decide +kernel
theorem dX1_nextRow_17 : decode cX1_nextRow 17 = .ok (.bipush 40, 2) := by decide +kernel
theorem dX1_nextRow_19 : decode cX1_nextRow 19 = .ok (.irem, 1) := by decide +kernel
theorem dX1_nextRow_20 : decode cX1_nextRow 20 = .ok (.putfield 21, 3) := by decide +kernel
theorem dX1_nextRow_23 : decode cX1_nextRow 23 = .ok (.aload_n 0, 1) := by decide +kernel
theorem dX1_nextRow_24 : decode cX1_nextRow 24 = .ok (.aload_n 0, 1) := by decide +kernel
theorem dX1_nextRow_25 : decode cX1_nextRow 25 = .ok (.getfield 17, 3) := by decide +kernel
theorem dX1_nextRow_28 : decode cX1_nextRow 28 = .ok (.iconst 1, 1) := by decide +kernel
theorem dX1_nextRow_29 : decode cX1_nextRow 29 = .ok (.iadd, 1) := by decide +kernel
theorem dX1_nextRow_30 : decode cX1_nextRow 30 = .ok (.bipush 40, 2) := by decide +kernel
theorem dX1_nextRow_32 : decode cX1_nextRow 32 = .ok (.invokestatic 25, 3) := by decide +kernel
theorem dX1_nextRow_35 : decode cX1_nextRow 35 = .ok (.putfield 17, 3) := by decide +kernel
theorem dX1_nextRow_38 : decode cX1_nextRow 38 = .ok (.aload_n 1, 1) := by decide +kernel
theorem dX1_nextRow_39 : decode cX1_nextRow 39 = .ok (.areturn, 1) := by decide +kernel
theorem dX1_takeLatest_0 : decode cX1_takeLatest 0 = .ok (.aload_n 0, 1) := by decide +kernel
theorem dX1_takeLatest_1 : decode cX1_takeLatest 1 = .ok (.aload_n 0, 1) := by decide +kernel
theorem dX1_takeLatest_2 : decode cX1_takeLatest 2 = .ok (.getfield 21, 3) := by decide +kernel
theorem dX1_takeLatest_5 : decode cX1_takeLatest 5 = .ok (.bipush 40, 2) := by decide +kernel
theorem dX1_takeLatest_7 : decode cX1_takeLatest 7 = .ok (.iadd, 1) := by decide +kernel
theorem dX1_takeLatest_8 : decode cX1_takeLatest 8 = .ok (.iconst 1, 1) := by decide +kernel
theorem dX1_takeLatest_9 : decode cX1_takeLatest 9 = .ok (.isub, 1) := by decide +kernel
theorem dX1_takeLatest_10 : decode cX1_takeLatest 10 = .ok (.bipush 40, 2) := by decide +kernel
theorem dX1_takeLatest_12 : decode cX1_takeLatest 12 = .ok (.irem, 1) := by decide +kernel
theorem dX1_takeLatest_13 : decode cX1_takeLatest 13 = .ok (.putfield 21, 3) := by decide +kernel
theorem dX1_takeLatest_16 : decode cX1_takeLatest 16 = .ok (.aload_n 0, 1) := by decide +kernel
theorem dX1_takeLatest_17 : decode cX1_takeLatest 17 = .ok (.dup, 1) := by decide +kernel
theorem dX1_takeLatest_18 : decode cX1_takeLatest 18 = .ok (.getfield 17, 3) := by decide +kernel
theorem dX1_takeLatest_21 : decode cX1_takeLatest 21 = .ok (.iconst 1, 1) := by decide +kernel
theorem dX1_takeLatest_22 : decode cX1_takeLatest 22 = .ok (.isub, 1) := by decide +kernel
theorem dX1_takeLatest_23 : decode cX1_takeLatest 23 = .ok (.putfield 17, 3) := by decide +kernel
theorem dX1_takeLatest_26 : decode cX1_takeLatest 26 = .ok (.aload_n 0, 1) := by decide +kernel
theorem dX1_takeLatest_27 : decode cX1_takeLatest 27 = .ok (.getfield 11, 3) := by decide +kernel
theorem dX1_takeLatest_30 : decode cX1_takeLatest 30 = .ok (.aload_n 0, 1) := by decide +kernel
theorem dX1_takeLatest_31 : decode cX1_takeLatest 31 = .ok (.getfield 21, 3) := by decide +kernel
theorem dX1_takeLatest_34 : decode cX1_takeLatest 34 = .ok (.aaload, 1) := by decide +kernel
theorem dX1_takeLatest_35 : decode cX1_takeLatest 35 = .ok (.areturn, 1) := by decide +kernel
theorem dX2_init_0 : decode cX2_init 0 = .ok (.aload_n 0, 1) := by decide +kernel
theorem dX2_init_1 : decode cX2_init 1 = .ok (.invokespecial 5, 3) := by decide +kernel
theorem dX2_init_4 : decode cX2_init 4 = .ok (.aload_n 0, 1) := by decide +kernel
theorem dX2_init_5 : decode cX2_init 5 = .ok (.iconst 5, 1) := by decide +kernel
theorem dX2_init_6 : decode cX2_init 6 = .ok (.newarray .int, 2) := by decide +kernel
theorem dX2_init_8 : decode cX2_init 8 = .ok (.putfield 11, 3) := by decide +kernel
theorem dX2_init_11 : decode cX2_init 11 = .ok (.aload_n 0, 1) := by decide +kernel
theorem dX2_init_12 : decode cX2_init 12 = .ok (.iconst 5, 1) := by decide +kernel
theorem dX2_init_13 : decode cX2_init 13 = .ok (.newarray .int, 2) := by decide +kernel
theorem dX2_init_15 : decode cX2_init 15 = .ok (.putfield 15, 3) := by decide +kernel
theorem dX2_init_18 : decode cX2_init 18 = .ok (.aload_n 0, 1) := by decide +kernel
theorem dX2_init_19 : decode cX2_init 19 = .ok (.iconst 0, 1) := by decide +kernel
theorem dX2_init_20 : decode cX2_init 20 = .ok (.putfield 18, 3) := by decide +kernel
theorem dX2_init_23 : decode cX2_init 23 = .ok (.aload_n 0, 1) := by decide +kernel
theorem dX2_init_24 : decode cX2_init 24 = .ok (.bipush 6, 2) := by decide +kernel
theorem dX2_init_26 : decode cX2_init 26 = .ok (.sipush 144, 3) := by decide +kernel
theorem dX2_init_29 : decode cX2_init 29 = .ok (.multianewarray 22 2, 4) := by decide +kernel
theorem dX2_init_33 : decode cX2_init 33 = .ok (.putfield 24, 3) := by decide +kernel
theorem dX2_init_36 : decode cX2_init 36 = .ok (.return_, 1) := by decide +kernel
theorem dX2_add_0 : decode cX2_add 0 = .ok (.aload_n 0, 1) := by decide +kernel
theorem dX2_add_1 : decode cX2_add 1 = .ok (.getfield 11, 3) := by decide +kernel
theorem dX2_add_4 : decode cX2_add 4 = .ok (.aload_n 0, 1) := by decide +kernel
theorem dX2_add_5 : decode cX2_add 5 = .ok (.getfield 18, 3) := by decide +kernel
theorem dX2_add_8 : decode cX2_add 8 = .ok (.iload_n 1, 1) := by decide +kernel
theorem dX2_add_9 : decode cX2_add 9 = .ok (.iastore, 1) := by decide +kernel
theorem dX2_add_10 : decode cX2_add 10 = .ok (.aload_n 0, 1) := by decide +kernel
theorem dX2_add_11 : decode cX2_add 11 = .ok (.getfield 15, 3) := by decide +kernel
theorem dX2_add_14 : decode cX2_add 14 = .ok (.aload_n 0, 1) := by decide +kernel
theorem dX2_add_15 : decode cX2_add 15 = .ok (.getfield 18, 3) := by decide +kernel
theorem dX2_add_18 : decode cX2_add 18 = .ok (.iload_n 2, 1) := by decide +kernel
theorem dX2_add_19 : decode cX2_add 19 = .ok (.iastore, 1) := by decide +kernel
theorem dX2_add_20 : decode cX2_add 20 = .ok (.aload_n 0, 1) := by decide +kernel
theorem dX2_add_21 : decode cX2_add 21 = .ok (.dup, 1) := by decide +kernel
theorem dX2_add_22 : decode cX2_add 22 = .ok (.getfield 18, 3) := by decide +kernel
theorem dX2_add_25 : decode cX2_add 25 = .ok (.iconst 1, 1) := by decide +kernel
theorem dX2_add_26 : decode cX2_add 26 = .ok (.iadd, 1) := by decide +kernel
theorem dX2_add_27 : decode cX2_add 27 = .ok (.putfield 18, 3) := by decide +kernel
theorem dX2_add_30 : decode cX2_add 30 = .ok (.return_, 1) := by decide +kernel
set_option maxRecDepth 20000 in
theorem ggX2_weighUp_X2_priceWithOneMore : GoodIn wsX2_weighUp wsX2_priceWithOneMore := goodIn_r _ [12, 13, 3, 1, 14, 15, 16, 17, 18] (by decide +kernel) (by decide +kernel)
set_option maxRecDepth 20000 in
theorem gX2_weighUp_X2_priceWithOneMore : GoodIn wsX2_weighUp (wsV RX2 28 RX2 yX2_priceWithOneMore wsX2_priceWithOneMore) := goodIn_app (goodIn_of _ (by decide +kernel)) ggX2_weighUp_X2_priceWithOneMore
theorem dX2_weighUp_0 : decode cX2_weighUp 0 = .ok (.iconst 0, 1) := by decide +kernel
theorem dX2_weighUp_1 : decode cX2_weighUp 1 = .ok (.istore_n 1, 1) := by decide +kernel
theorem dX2_weighUp_2 : decode cX2_weighUp 2 = .ok (.iload_n 1, 1) := by decide +kernel
theorem dX2_weighUp_3 : decode cX2_weighUp 3 = .ok (.sipush 144, 3) := by decide +kernel
theorem dX2_weighUp_6 : decode cX2_weighUp 6 = .ok (.if_icmp .ge 30, 3) := by decide +kernel
theorem dX2_weighUp_9 : decode cX2_weighUp 9 = .ok (.aload_n 0, 1) := by decide +kernel
theorem dX2_weighUp_10 : decode cX2_weighUp 10 = .ok (.getfield 24, 3) := by decide +kernel
theorem dX2_weighUp_13 : decode cX2_weighUp 13 = .ok (.aload_n 0, 1) := by decide +kernel
theorem dX2_weighUp_14 : decode cX2_weighUp 14 = .ok (.getfield 18, 3) := by decide +kernel
theorem dX2_weighUp_17 : decode cX2_weighUp 17 = .ok (.aaload, 1) := by decide +kernel
theorem dX2_weighUp_18 : decode cX2_weighUp 18 = .ok (.iload_n 1, 1) := by decide +kernel
theorem dX2_weighUp_19 : decode cX2_weighUp 19 = .ok (.iload_n 1, 1) := by decide +kernel
theorem dX2_weighUp_20 : decode cX2_weighUp 20 = .ok (.ifCond .ne 7, 3) := by decide +kernel
theorem dX2_weighUp_23 : decode cX2_weighUp 23 = .ok (.iconst 0, 1) := by decide +kernel
theorem dX2_weighUp_24 : decode cX2_weighUp 24 = .ok (.goto 5, 3) := by decide +kernel
theorem dX2_weighUp_27 : decode cX2_weighUp 27 = .ok (.ldc 27, 2) := by decide +kernel
theorem dX2_weighUp_29 : decode cX2_weighUp 29 = .ok (.iastore, 1) := by decide +kernel
theorem dX2_weighUp_30 : decode cX2_weighUp 30 = .ok (.iinc 1 1, 3) := by decide +kernel
theorem dX2_weighUp_33 : decode cX2_weighUp 33 = .ok (.goto (-31), 3) := by decide +kernel
theorem dX2_weighUp_36 : decode cX2_weighUp 36 = .ok (.aload_n 0, 1) := by decide +kernel
theorem dX2_weighUp_37 : decode cX2_weighUp 37 = .ok (.getfield 18, 3) := by decide +kernel
theorem dX2_weighUp_40 : decode cX2_weighUp 40 = .ok (.iconst 1, 1) := by decide +kernel
theorem dX2_weighUp_41 : decode cX2_weighUp 41 = .ok (.isub, 1) := by decide +kernel
theorem dX2_weighUp_42 : decode cX2_weighUp 42 = .ok (.istore_n 1, 1) := by decide +kernel
theorem dX2_weighUp_43 : decode cX2_weighUp 43 = .ok (.iload_n 1, 1) := by decide +kernel
theorem dX2_weighUp_44 : decode cX2_weighUp 44 = .ok (.ifCond .lt 51, 3) := by decide +kernel
theorem dX2_weighUp_47 : decode cX2_weighUp 47 = .ok (.iconst 0, 1) := by decide +kernel
theorem dX2_weighUp_48 : decode cX2_weighUp 48 = .ok (.istore_n 2, 1) := by decide +kernel
theorem dX2_weighUp_49 : decode cX2_weighUp 49 = .ok (.iload_n 2, 1) := by decide +kernel
theorem dX2_weighUp_50 : decode cX2_weighUp 50 = .ok (.sipush 144, 3) := by decide +kernel
theorem dX2_weighUp_53 : decode cX2_weighUp 53 = .ok (.if_icmp .ge 36, 3) := by decide +kernel
theorem dX2_weighUp_56 : decode cX2_weighUp 56 = .ok (.aload_n 0, 1) := by decide +kernel
theorem dX2_weighUp_57 : decode cX2_weighUp 57 = .ok (.getfield 24, 3) := by decide +kernel
theorem dX2_weighUp_60 : decode cX2_weighUp 60 = .ok (.iload_n 1, 1) := by decide +kernel
theorem dX2_weighUp_61 : decode cX2_weighUp 61 = .ok (.aaload, 1) := by decide +kernel
theorem dX2_weighUp_62 : decode cX2_weighUp 62 = .ok (.iload_n 2, 1) := by decide +kernel
theorem dX2_weighUp_63 : decode cX2_weighUp 63 = .ok (.aload_n 0, 1) := by decide +kernel
theorem dX2_weighUp_64 : decode cX2_weighUp 64 = .ok (.getfield 24, 3) := by decide +kernel
theorem dX2_weighUp_67 : decode cX2_weighUp 67 = .ok (.iload_n 1, 1) := by decide +kernel
theorem dX2_weighUp_68 : decode cX2_weighUp 68 = .ok (.iconst 1, 1) := by decide +kernel
theorem dX2_weighUp_69 : decode cX2_weighUp 69 = .ok (.iadd, 1) := by decide +kernel
theorem dX2_weighUp_70 : decode cX2_weighUp 70 = .ok (.aaload, 1) := by decide +kernel
theorem dX2_weighUp_71 : decode cX2_weighUp 71 = .ok (.iload_n 2, 1) := by decide +kernel
theorem dX2_weighUp_72 : decode cX2_weighUp 72 = .ok (.iaload, 1) := by decide +kernel
theorem dX2_weighUp_73 : decode cX2_weighUp 73 = .ok (.aload_n 0, 1) := by decide +kernel
theorem dX2_weighUp_74 : decode cX2_weighUp 74 = .ok (.iload_n 1, 1) := by decide +kernel
theorem dX2_weighUp_75 : decode cX2_weighUp 75 = .ok (.iload_n 2, 1) := by decide +kernel
theorem dX2_weighUp_76 : decode cX2_weighUp 76 = .ok (.invokevirtual 28, 3) := by decide +kernel
theorem dX2_weighUp_79 : decode cX2_weighUp 79 = .ok (.invokestatic 32, 3) := by decide +kernel
theorem dX2_weighUp_82 : decode cX2_weighUp 82 = .ok (.iastore, 1) := by decide +kernel
theorem dX2_weighUp_83 : decode cX2_weighUp 83 = .ok (.iinc 2 1, 3) := by decide +kernel
theorem dX2_weighUp_86 : decode cX2_weighUp 86 = .ok (.goto (-37), 3) := by decide +kernel
theorem dX2_weighUp_89 : decode cX2_weighUp 89 = .ok (.iinc 1 (-1), 3) := by decide +kernel
theorem dX2_weighUp_92 : decode cX2_weighUp 92 = .ok (.goto (-49), 3) := by decide +kernel
theorem dX2_weighUp_95 : decode cX2_weighUp 95 = .ok (.return_, 1) := by decide +kernel
theorem dX2_priceWithOneMore_0 : decode cX2_priceWithOneMore 0 = .ok (.iload_n 2, 1) := by decide +kernel
theorem dX2_priceWithOneMore_1 : decode cX2_priceWithOneMore 1 = .ok (.aload_n 0, 1) := by decide +kernel
theorem dX2_priceWithOneMore_2 : decode cX2_priceWithOneMore 2 = .ok (.getfield 11, 3) := by decide +kernel
theorem dX2_priceWithOneMore_5 : decode cX2_priceWithOneMore 5 = .ok (.iload_n 1, 1) := by decide +kernel
theorem dX2_priceWithOneMore_6 : decode cX2_priceWithOneMore 6 = .ok (.iaload, 1) := by decide +kernel
theorem dX2_priceWithOneMore_7 : decode cX2_priceWithOneMore 7 = .ok (.if_icmp .ge 8, 3) := by decide +kernel
theorem dX2_priceWithOneMore_10 : decode cX2_priceWithOneMore 10 = .ok (.ldc 27, 2) := by decide +kernel
theorem dX2_priceWithOneMore_12 : decode cX2_priceWithOneMore 12 = .ok (.goto 25, 3) := by decide +kernel
theorem dX2_priceWithOneMore_15 : decode cX2_priceWithOneMore 15 = .ok (.aload_n 0, 1) := by decide +kernel
theorem dX2_priceWithOneMore_16 : decode cX2_priceWithOneMore 16 = .ok (.getfield 24, 3) := by decide +kernel
theorem dX2_priceWithOneMore_19 : decode cX2_priceWithOneMore 19 = .ok (.iload_n 1, 1) := by decide +kernel
theorem dX2_priceWithOneMore_20 : decode cX2_priceWithOneMore 20 = .ok (.aaload, 1) := by decide +kernel
theorem dX2_priceWithOneMore_21 : decode cX2_priceWithOneMore 21 = .ok (.iload_n 2, 1) := by decide +kernel
theorem dX2_priceWithOneMore_22 : decode cX2_priceWithOneMore 22 = .ok (.aload_n 0, 1) := by decide +kernel
theorem dX2_priceWithOneMore_23 : decode cX2_priceWithOneMore 23 = .ok (.getfield 11, 3) := by decide +kernel
theorem dX2_priceWithOneMore_26 : decode cX2_priceWithOneMore 26 = .ok (.iload_n 1, 1) := by decide +kernel
theorem dX2_priceWithOneMore_27 : decode cX2_priceWithOneMore 27 = .ok (.iaload, 1) := by decide +kernel
theorem dX2_priceWithOneMore_28 : decode cX2_priceWithOneMore 28 = .ok (.isub, 1) := by decide +kernel
theorem dX2_priceWithOneMore_29 : decode cX2_priceWithOneMore 29 = .ok (.iaload, 1) := by decide +kernel
theorem dX2_priceWithOneMore_30 : decode cX2_priceWithOneMore 30 = .ok (.aload_n 0, 1) := by decide +kernel
theorem dX2_priceWithOneMore_31 : decode cX2_priceWithOneMore 31 = .ok (.getfield 15, 3) := by decide +kernel
theorem dX2_priceWithOneMore_34 : decode cX2_priceWithOneMore 34 = .ok (.iload_n 1, 1) := by decide +kernel
theorem dX2_priceWithOneMore_35 : decode cX2_priceWithOneMore 35 = .ok (.iaload, 1) := by decide +kernel
theorem dX2_priceWithOneMore_36 : decode cX2_priceWithOneMore 36 = .ok (.iadd, 1) := by decide +kernel
theorem dX2_priceWithOneMore_37 : decode cX2_priceWithOneMore 37 = .ok (.ireturn, 1) := by decide +kernel
theorem dX2_leastFor_0 : decode cX2_leastFor 0 = .ok (.aload_n 0, 1) := by decide +kernel
theorem dX2_leastFor_1 : decode cX2_leastFor 1 = .ok (.getfield 24, 3) := by decide +kernel
theorem dX2_leastFor_4 : decode cX2_leastFor 4 = .ok (.iconst 0, 1) := by decide +kernel
theorem dX2_leastFor_5 : decode cX2_leastFor 5 = .ok (.aaload, 1) := by decide +kernel
theorem dX2_leastFor_6 : decode cX2_leastFor 6 = .ok (.iload_n 1, 1) := by decide +kernel
theorem dX2_leastFor_7 : decode cX2_leastFor 7 = .ok (.iaload, 1) := by decide +kernel
theorem dX2_leastFor_8 : decode cX2_leastFor 8 = .ok (.ireturn, 1) := by decide +kernel
theorem dX2_bestBottles_0 : decode cX2_bestBottles 0 = .ok (.iload_n 1, 1) := by decide +kernel
theorem dX2_bestBottles_1 : decode cX2_bestBottles 1 = .ok (.istore_n 2, 1) := by decide +kernel
theorem dX2_bestBottles_2 : decode cX2_bestBottles 2 = .ok (.iload_n 1, 1) := by decide +kernel
theorem dX2_bestBottles_3 : decode cX2_bestBottles 3 = .ok (.iconst 1, 1) := by decide +kernel
theorem dX2_bestBottles_4 : decode cX2_bestBottles 4 = .ok (.iadd, 1) := by decide +kernel
theorem dX2_bestBottles_5 : decode cX2_bestBottles 5 = .ok (.istore_n 3, 1) := by decide +kernel
theorem dX2_bestBottles_6 : decode cX2_bestBottles 6 = .ok (.iload_n 3, 1) := by decide +kernel
theorem dX2_bestBottles_7 : decode cX2_bestBottles 7 = .ok (.sipush 144, 3) := by decide +kernel
theorem dX2_bestBottles_10 : decode cX2_bestBottles 10 = .ok (.if_icmp .ge 30, 3) := by decide +kernel
theorem dX2_bestBottles_13 : decode cX2_bestBottles 13 = .ok (.aload_n 0, 1) := by decide +kernel
theorem dX2_bestBottles_14 : decode cX2_bestBottles 14 = .ok (.getfield 24, 3) := by decide +kernel
theorem dX2_bestBottles_17 : decode cX2_bestBottles 17 = .ok (.iconst 0, 1) := by decide +kernel
theorem dX2_bestBottles_18 : decode cX2_bestBottles 18 = .ok (.aaload, 1) := by decide +kernel
theorem dX2_bestBottles_19 : decode cX2_bestBottles 19 = .ok (.iload_n 3, 1) := by decide +kernel
theorem dX2_bestBottles_20 : decode cX2_bestBottles 20 = .ok (.iaload, 1) := by decide +kernel
theorem dX2_bestBottles_21 : decode cX2_bestBottles 21 = .ok (.aload_n 0, 1) := by decide +kernel
theorem dX2_bestBottles_22 : decode cX2_bestBottles 22 = .ok (.getfield 24, 3) := by decide +kernel
theorem dX2_bestBottles_25 : decode cX2_bestBottles 25 = .ok (.iconst 0, 1) := by decide +kernel
theorem dX2_bestBottles_26 : decode cX2_bestBottles 26 = .ok (.aaload, 1) := by decide +kernel
theorem dX2_bestBottles_27 : decode cX2_bestBottles 27 = .ok (.iload_n 2, 1) := by decide +kernel
theorem dX2_bestBottles_28 : decode cX2_bestBottles 28 = .ok (.iaload, 1) := by decide +kernel
theorem dX2_bestBottles_29 : decode cX2_bestBottles 29 = .ok (.if_icmp .ge 5, 3) := by decide +kernel
theorem dX2_bestBottles_32 : decode cX2_bestBottles 32 = .ok (.iload_n 3, 1) := by decide +kernel
theorem dX2_bestBottles_33 : decode cX2_bestBottles 33 = .ok (.istore_n 2, 1) := by decide +kernel
theorem dX2_bestBottles_34 : decode cX2_bestBottles 34 = .ok (.iinc 3 1, 3) := by decide +kernel
theorem dX2_bestBottles_37 : decode cX2_bestBottles 37 = .ok (.goto (-31), 3) := by decide +kernel
theorem dX2_bestBottles_40 : decode cX2_bestBottles 40 = .ok (.iload_n 2, 1) := by decide +kernel
theorem dX2_bestBottles_41 : decode cX2_bestBottles 41 = .ok (.ireturn, 1) := by decide +kernel
set_option maxRecDepth 20000 in
theorem ggX2_timesOf_X2_mostTimes : GoodIn wsX2_timesOf wsX2_mostTimes := goodIn_r _ [6, 1, 7, 8, 9, 10, 5, 11, 12, 13, 14, 15, 16, 17] (by decide +kernel) (by decide +kernel)
set_option maxRecDepth 20000 in
theorem gX2_timesOf_X2_mostTimes : GoodIn wsX2_timesOf (wsV RX2 37 RX2 yX2_mostTimes wsX2_mostTimes) := goodIn_app (goodIn_of _ (by decide +kernel)) ggX2_timesOf_X2_mostTimes
theorem dX2_timesOf_0 : decode cX2_timesOf 0 = .ok (.iload_n 2, 1) := by decide +kernel
theorem dX2_timesOf_1 : decode cX2_timesOf 1 = .ok (.istore_n 3, 1) := by decide +kernel
theorem dX2_timesOf_2 : decode cX2_timesOf 2 = .ok (.iconst 0, 1) := by decide +kernel
theorem dX2_timesOf_3 : decode cX2_timesOf 3 = .ok (.istore 4, 2) := by decide +kernel
theorem dX2_timesOf_5 : decode cX2_timesOf 5 = .ok (.iconst 0, 1) := by decide +kernel
theorem dX2_timesOf_6 : decode cX2_timesOf 6 = .ok (.istore 5, 2) := by decide +kernel
theorem dX2_timesOf_8 : decode cX2_timesOf 8 = .ok (.iload 5, 2) := by decide +kernel
theorem dX2_timesOf_10 : decode cX2_timesOf 10 = .ok (.iload_n 1, 1) := by decide +kernel
theorem dX2_timesOf_11 : decode cX2_timesOf 11 = .ok (.if_icmp .gt 31, 3) := by decide +kernel
theorem dX2_timesOf_14 : decode cX2_timesOf 14 = .ok (.aload_n 0, 1) := by decide +kernel
theorem dX2_timesOf_15 : decode cX2_timesOf 15 = .ok (.iload 5, 2) := by decide +kernel
theorem dX2_timesOf_17 : decode cX2_timesOf 17 = .ok (.iload_n 3, 1) := by decide +kernel
theorem dX2_timesOf_18 : decode cX2_timesOf 18 = .ok (.invokevirtual 37, 3) := by decide +kernel
theorem dX2_timesOf_21 : decode cX2_timesOf 21 = .ok (.istore 4, 2) := by decide +kernel
theorem dX2_timesOf_23 : decode cX2_timesOf 23 = .ok (.iload_n 3, 1) := by decide +kernel
theorem dX2_timesOf_24 : decode cX2_timesOf 24 = .ok (.iload 4, 2) := by decide +kernel
theorem dX2_timesOf_26 : decode cX2_timesOf 26 = .ok (.aload_n 0, 1) := by decide +kernel
theorem dX2_timesOf_27 : decode cX2_timesOf 27 = .ok (.getfield 11, 3) := by decide +kernel
theorem dX2_timesOf_30 : decode cX2_timesOf 30 = .ok (.iload 5, 2) := by decide +kernel
theorem dX2_timesOf_32 : decode cX2_timesOf 32 = .ok (.iaload, 1) := by decide +kernel
theorem dX2_timesOf_33 : decode cX2_timesOf 33 = .ok (.imul, 1) := by decide +kernel
theorem dX2_timesOf_34 : decode cX2_timesOf 34 = .ok (.isub, 1) := by decide +kernel
theorem dX2_timesOf_35 : decode cX2_timesOf 35 = .ok (.istore_n 3, 1) := by decide +kernel
theorem dX2_timesOf_36 : decode cX2_timesOf 36 = .ok (.iinc 5 1, 3) := by decide +kernel
theorem dX2_timesOf_39 : decode cX2_timesOf 39 = .ok (.goto (-31), 3) := by decide +kernel
theorem dX2_timesOf_42 : decode cX2_timesOf 42 = .ok (.iload 4, 2) := by decide +kernel
theorem dX2_timesOf_44 : decode cX2_timesOf 44 = .ok (.ireturn, 1) := by decide +kernel
set_option maxRecDepth 20000 in
theorem ggX2_mostTimes_X2_priceWithOneMore : GoodIn wsX2_mostTimes wsX2_priceWithOneMore := goodIn_r _ [7, 1, 8, 2, 9, 10, 11, 12, 13] (by decide +kernel) (by decide +kernel)
set_option maxRecDepth 20000 in
theorem gX2_mostTimes_X2_priceWithOneMore : GoodIn wsX2_mostTimes (wsV RX2 28 RX2 yX2_priceWithOneMore wsX2_priceWithOneMore) := goodIn_app (goodIn_of _ (by decide +kernel)) ggX2_mostTimes_X2_priceWithOneMore
theorem dX2_mostTimes_0 : decode cX2_mostTimes 0 = .ok (.iload_n 2, 1) := by decide +kernel
theorem dX2_mostTimes_1 : decode cX2_mostTimes 1 = .ok (.istore_n 3, 1) := by decide +kernel
theorem dX2_mostTimes_2 : decode cX2_mostTimes 2 = .ok (.iconst 0, 1) := by decide +kernel
theorem dX2_mostTimes_3 : decode cX2_mostTimes 3 = .ok (.istore 4, 2) := by decide +kernel
theorem dX2_mostTimes_5 : decode cX2_mostTimes 5 = .ok (.iload 4, 2) := by decide +kernel
theorem dX2_mostTimes_7 : decode cX2_mostTimes 7 = .ok (.sipush 144, 3) := by decide +kernel
theorem dX2_mostTimes_10 : decode cX2_mostTimes 10 = .ok (.if_icmp .ge 45, 3) := by decide +kernel
theorem dX2_mostTimes_13 : decode cX2_mostTimes 13 = .ok (.iload_n 3, 1) := by decide +kernel
theorem dX2_mostTimes_14 : decode cX2_mostTimes 14 = .ok (.aload_n 0, 1) := by decide +kernel
theorem dX2_mostTimes_15 : decode cX2_mostTimes 15 = .ok (.getfield 11, 3) := by decide +kernel
theorem dX2_mostTimes_18 : decode cX2_mostTimes 18 = .ok (.iload_n 1, 1) := by decide +kernel
theorem dX2_mostTimes_19 : decode cX2_mostTimes 19 = .ok (.iaload, 1) := by decide +kernel
theorem dX2_mostTimes_20 : decode cX2_mostTimes 20 = .ok (.if_icmp .lt 35, 3) := by decide +kernel
theorem dX2_mostTimes_23 : decode cX2_mostTimes 23 = .ok (.aload_n 0, 1) := by decide +kernel
theorem dX2_mostTimes_24 : decode cX2_mostTimes 24 = .ok (.iload_n 1, 1) := by decide +kernel
theorem dX2_mostTimes_25 : decode cX2_mostTimes 25 = .ok (.iload_n 3, 1) := by decide +kernel
theorem dX2_mostTimes_26 : decode cX2_mostTimes 26 = .ok (.invokevirtual 28, 3) := by decide +kernel
theorem dX2_mostTimes_29 : decode cX2_mostTimes 29 = .ok (.aload_n 0, 1) := by decide +kernel
theorem dX2_mostTimes_30 : decode cX2_mostTimes 30 = .ok (.getfield 24, 3) := by decide +kernel
theorem dX2_mostTimes_33 : decode cX2_mostTimes 33 = .ok (.iload_n 1, 1) := by decide +kernel
theorem dX2_mostTimes_34 : decode cX2_mostTimes 34 = .ok (.aaload, 1) := by decide +kernel
theorem dX2_mostTimes_35 : decode cX2_mostTimes 35 = .ok (.iload_n 3, 1) := by decide +kernel
theorem dX2_mostTimes_36 : decode cX2_mostTimes 36 = .ok (.iaload, 1) := by decide +kernel
theorem dX2_mostTimes_37 : decode cX2_mostTimes 37 = .ok (.if_icmp .ne 18, 3) := by decide +kernel
theorem dX2_mostTimes_40 : decode cX2_mostTimes 40 = .ok (.iload_n 3, 1) := by decide +kernel
theorem dX2_mostTimes_41 : decode cX2_mostTimes 41 = .ok (.aload_n 0, 1) := by decide +kernel
theorem dX2_mostTimes_42 : decode cX2_mostTimes 42 = .ok (.getfield 11, 3) := by decide +kernel
theorem dX2_mostTimes_45 : decode cX2_mostTimes 45 = .ok (.iload_n 1, 1) := by decide +kernel
theorem dX2_mostTimes_46 : decode cX2_mostTimes 46 = .ok (.iaload, 1) := by decide +kernel
theorem dX2_mostTimes_47 : decode cX2_mostTimes 47 = .ok (.isub, 1) := by decide +kernel
theorem dX2_mostTimes_48 : decode cX2_mostTimes 48 = .ok (.istore_n 3, 1) := by decide +kernel
theorem dX2_mostTimes_49 : decode cX2_mostTimes 49 = .ok (.iinc 4 1, 3) := by decide +kernel
theorem dX2_mostTimes_52 : decode cX2_mostTimes 52 = .ok (.goto (-47), 3) := by decide +kernel
theorem dX2_mostTimes_55 : decode cX2_mostTimes 55 = .ok (.iload 4, 2) := by decide +kernel
theorem dX2_mostTimes_57 : decode cX2_mostTimes 57 = .ok (.ireturn, 1) := by decide +kernel
theorem dX3_init_0 : decode cX3_init 0 = .ok (.aload_n 0, 1) := by decide +kernel
theorem dX3_init_1 : decode cX3_init 1 = .ok (.invokespecial 3, 3) := by decide +kernel
theorem dX3_init_4 : decode cX3_init 4 = .ok (.aload_n 0, 1) := by decide +kernel
theorem dX3_init_5 : decode cX3_init 5 = .ok (.bipush 8, 2) := by decide +kernel
theorem dX3_init_7 : decode cX3_init 7 = .ok (.newarray .int, 2) := by decide +kernel
theorem dX3_init_9 : decode cX3_init 9 = .ok (.putfield 9, 3) := by decide +kernel
theorem dX3_init_12 : decode cX3_init 12 = .ok (.aload_n 0, 1) := by decide +kernel
theorem dX3_init_13 : decode cX3_init 13 = .ok (.bipush 8, 2) := by decide +kernel
theorem dX3_init_15 : decode cX3_init 15 = .ok (.newarray .int, 2) := by decide +kernel
theorem dX3_init_17 : decode cX3_init 17 = .ok (.putfield 15, 3) := by decide +kernel
theorem dX3_init_20 : decode cX3_init 20 = .ok (.aload_n 0, 1) := by decide +kernel
theorem dX3_init_21 : decode cX3_init 21 = .ok (.iconst 0, 1) := by decide +kernel
theorem dX3_init_22 : decode cX3_init 22 = .ok (.putfield 18, 3) := by decide +kernel
theorem dX3_init_25 : decode cX3_init 25 = .ok (.return_, 1) := by decide +kernel
theorem dX3_add_0 : decode cX3_add 0 = .ok (.aload_n 0, 1) := by decide +kernel
theorem dX3_add_1 : decode cX3_add 1 = .ok (.getfield 9, 3) := by decide +kernel
theorem dX3_add_4 : decode cX3_add 4 = .ok (.aload_n 0, 1) := by decide +kernel
theorem dX3_add_5 : decode cX3_add 5 = .ok (.getfield 18, 3) := by decide +kernel
theorem dX3_add_8 : decode cX3_add 8 = .ok (.iload_n 1, 1) := by decide +kernel
theorem dX3_add_9 : decode cX3_add 9 = .ok (.iastore, 1) := by decide +kernel
theorem dX3_add_10 : decode cX3_add 10 = .ok (.aload_n 0, 1) := by decide +kernel
theorem dX3_add_11 : decode cX3_add 11 = .ok (.getfield 15, 3) := by decide +kernel
theorem dX3_add_14 : decode cX3_add 14 = .ok (.aload_n 0, 1) := by decide +kernel
theorem dX3_add_15 : decode cX3_add 15 = .ok (.getfield 18, 3) := by decide +kernel
theorem dX3_add_18 : decode cX3_add 18 = .ok (.iload_n 2, 1) := by decide +kernel
theorem dX3_add_19 : decode cX3_add 19 = .ok (.iastore, 1) := by decide +kernel
theorem dX3_add_20 : decode cX3_add 20 = .ok (.aload_n 0, 1) := by decide +kernel
theorem dX3_add_21 : decode cX3_add 21 = .ok (.dup, 1) := by decide +kernel
theorem dX3_add_22 : decode cX3_add 22 = .ok (.getfield 18, 3) := by decide +kernel
theorem dX3_add_25 : decode cX3_add 25 = .ok (.iconst 1, 1) := by decide +kernel
theorem dX3_add_26 : decode cX3_add 26 = .ok (.iadd, 1) := by decide +kernel
theorem dX3_add_27 : decode cX3_add 27 = .ok (.putfield 18, 3) := by decide +kernel
theorem dX3_add_30 : decode cX3_add 30 = .ok (.return_, 1) := by decide +kernel
theorem dX3_costOf_0 : decode cX3_costOf 0 = .ok (.iconst 0, 1) := by decide +kernel
theorem dX3_costOf_1 : decode cX3_costOf 1 = .ok (.istore 4, 2) := by decide +kernel
theorem dX3_costOf_3 : decode cX3_costOf 3 = .ok (.iconst 0, 1) := by decide +kernel
theorem dX3_costOf_4 : decode cX3_costOf 4 = .ok (.istore 5, 2) := by decide +kernel
theorem dX3_costOf_6 : decode cX3_costOf 6 = .ok (.iload 5, 2) := by decide +kernel
theorem dX3_costOf_8 : decode cX3_costOf 8 = .ok (.aload_n 0, 1) := by decide +kernel
theorem dX3_costOf_9 : decode cX3_costOf 9 = .ok (.getfield 18, 3) := by decide +kernel
theorem dX3_costOf_12 : decode cX3_costOf 12 = .ok (.if_icmp .ge 61, 3) := by decide +kernel
theorem dX3_costOf_15 : decode cX3_costOf 15 = .ok (.iconst 0, 1) := by decide +kernel
theorem dX3_costOf_16 : decode cX3_costOf 16 = .ok (.iload_n 1, 1) := by decide +kernel
theorem dX3_costOf_17 : decode cX3_costOf 17 = .ok (.aload_n 0, 1) := by decide +kernel
theorem dX3_costOf_18 : decode cX3_costOf 18 = .ok (.getfield 9, 3) := by decide +kernel
theorem dX3_costOf_21 : decode cX3_costOf 21 = .ok (.iload 5, 2) := by decide +kernel
theorem dX3_costOf_23 : decode cX3_costOf 23 = .ok (.iaload, 1) := by decide +kernel
theorem dX3_costOf_24 : decode cX3_costOf 24 = .ok (.isub, 1) := by decide +kernel
theorem dX3_costOf_25 : decode cX3_costOf 25 = .ok (.invokestatic 22, 3) := by decide +kernel
theorem dX3_costOf_28 : decode cX3_costOf 28 = .ok (.istore 6, 2) := by decide +kernel
theorem dX3_costOf_30 : decode cX3_costOf 30 = .ok (.iconst 0, 1) := by decide +kernel
theorem dX3_costOf_31 : decode cX3_costOf 31 = .ok (.aload_n 0, 1) := by decide +kernel
theorem dX3_costOf_32 : decode cX3_costOf 32 = .ok (.getfield 9, 3) := by decide +kernel
theorem dX3_costOf_35 : decode cX3_costOf 35 = .ok (.iload 5, 2) := by decide +kernel
theorem dX3_costOf_37 : decode cX3_costOf 37 = .ok (.iaload, 1) := by decide +kernel
theorem dX3_costOf_38 : decode cX3_costOf 38 = .ok (.iload_n 1, 1) := by decide +kernel
theorem dX3_costOf_39 : decode cX3_costOf 39 = .ok (.isub, 1) := by decide +kernel
theorem dX3_costOf_40 : decode cX3_costOf 40 = .ok (.invokestatic 22, 3) := by decide +kernel
theorem dX3_costOf_43 : decode cX3_costOf 43 = .ok (.istore 7, 2) := by decide +kernel
theorem dX3_costOf_45 : decode cX3_costOf 45 = .ok (.iload 4, 2) := by decide +kernel
theorem dX3_costOf_47 : decode cX3_costOf 47 = .ok (.aload_n 0, 1) := by decide +kernel
theorem dX3_costOf_48 : decode cX3_costOf 48 = .ok (.getfield 15, 3) := by decide +kernel
theorem dX3_costOf_51 : decode cX3_costOf 51 = .ok (.iload 5, 2) := by decide +kernel
theorem dX3_costOf_53 : decode cX3_costOf 53 = .ok (.iaload, 1) := by decide +kernel
theorem dX3_costOf_54 : decode cX3_costOf 54 = .ok (.iload_n 2, 1) := by decide +kernel
theorem dX3_costOf_55 : decode cX3_costOf 55 = .ok (.iload 6, 2) := by decide +kernel
theorem dX3_costOf_57 : decode cX3_costOf 57 = .ok (.imul, 1) := by decide +kernel
theorem dX3_costOf_58 : decode cX3_costOf 58 = .ok (.iload_n 3, 1) := by decide +kernel
theorem dX3_costOf_59 : decode cX3_costOf 59 = .ok (.iload 7, 2) := by decide +kernel
theorem dX3_costOf_61 : decode cX3_costOf 61 = .ok (.imul, 1) := by decide +kernel
theorem dX3_costOf_62 : decode cX3_costOf 62 = .ok (.iadd, 1) := by decide +kernel
theorem dX3_costOf_63 : decode cX3_costOf 63 = .ok (.imul, 1) := by decide +kernel
theorem dX3_costOf_64 : decode cX3_costOf 64 = .ok (.iadd, 1) := by decide +kernel
theorem dX3_costOf_65 : decode cX3_costOf 65 = .ok (.istore 4, 2) := by decide +kernel
theorem dX3_costOf_67 : decode cX3_costOf 67 = .ok (.iinc 5 1, 3) := by decide +kernel
theorem dX3_costOf_70 : decode cX3_costOf 70 = .ok (.goto (-64), 3) := by decide +kernel
theorem dX3_costOf_73 : decode cX3_costOf 73 = .ok (.iload 4, 2) := by decide +kernel
theorem dX3_costOf_75 : decode cX3_costOf 75 = .ok (.ireturn, 1) := by decide +kernel
set_option maxRecDepth 20000 in
theorem ggX3_par_X3_costOf : GoodIn wsX3_par wsX3_costOf := goodIn_r _ [5, 6, 7, 8, 9, 10, 11, 12, 13, 14, 15] (by decide +kernel) (by decide +kernel)
set_option maxRecDepth 20000 in
theorem gX3_par_X3_costOf : GoodIn wsX3_par (wsV RX3 28 RX3 yX3_costOf wsX3_costOf) := goodIn_app (goodIn_of _ (by decide +kernel)) ggX3_par_X3_costOf
theorem dX3_par_0 : decode cX3_par 0 = .ok (.iconst 0, 1) := by decide +kernel
theorem dX3_par_1 : decode cX3_par 1 = .ok (.istore_n 3, 1) := by decide +kernel
theorem dX3_par_2 : decode cX3_par 2 = .ok (.aload_n 0, 1) := by decide +kernel
theorem dX3_par_3 : decode cX3_par 3 = .ok (.iconst 0, 1) := by decide +kernel
theorem dX3_par_4 : decode cX3_par 4 = .ok (.iload_n 1, 1) := by decide +kernel
theorem dX3_par_5 : decode cX3_par 5 = .ok (.iload_n 2, 1) := by decide +kernel
theorem dX3_par_6 : decode cX3_par 6 = .ok (.invokevirtual 28, 3) := by decide +kernel
theorem dX3_par_9 : decode cX3_par 9 = .ok (.istore 4, 2) := by decide +kernel
theorem dX3_par_11 : decode cX3_par 11 = .ok (.iconst 1, 1) := by decide +kernel
theorem dX3_par_12 : decode cX3_par 12 = .ok (.istore 5, 2) := by decide +kernel
theorem dX3_par_14 : decode cX3_par 14 = .ok (.iload 5, 2) := by decide +kernel
theorem dX3_par_16 : decode cX3_par 16 = .ok (.sipush 200, 3) := by decide +kernel
theorem dX3_par_19 : decode cX3_par 19 = .ok (.if_icmp .gt 33, 3) := by decide +kernel
theorem dX3_par_22 : decode cX3_par 22 = .ok (.aload_n 0, 1) := by decide +kernel
theorem dX3_par_23 : decode cX3_par 23 = .ok (.iload 5, 2) := by decide +kernel
theorem dX3_par_25 : decode cX3_par 25 = .ok (.iload_n 1, 1) := by decide +kernel
theorem dX3_par_26 : decode cX3_par 26 = .ok (.iload_n 2, 1) := by decide +kernel
theorem dX3_par_27 : decode cX3_par 27 = .ok (.invokevirtual 28, 3) := by decide +kernel
theorem dX3_par_30 : decode cX3_par 30 = .ok (.istore 6, 2) := by decide +kernel
theorem dX3_par_32 : decode cX3_par 32 = .ok (.iload 6, 2) := by decide +kernel
theorem dX3_par_34 : decode cX3_par 34 = .ok (.iload 4, 2) := by decide +kernel
theorem dX3_par_36 : decode cX3_par 36 = .ok (.if_icmp .ge 10, 3) := by decide +kernel
theorem dX3_par_39 : decode cX3_par 39 = .ok (.iload 5, 2) := by decide +kernel
theorem dX3_par_41 : decode cX3_par 41 = .ok (.istore_n 3, 1) := by decide +kernel
theorem dX3_par_42 : decode cX3_par 42 = .ok (.iload 6, 2) := by decide +kernel
theorem dX3_par_44 : decode cX3_par 44 = .ok (.istore 4, 2) := by decide +kernel
theorem dX3_par_46 : decode cX3_par 46 = .ok (.iinc 5 1, 3) := by decide +kernel
theorem dX3_par_49 : decode cX3_par 49 = .ok (.goto (-35), 3) := by decide +kernel
theorem dX3_par_52 : decode cX3_par 52 = .ok (.iload_n 3, 1) := by decide +kernel
theorem dX3_par_53 : decode cX3_par 53 = .ok (.ireturn, 1) := by decide +kernel
theorem dX4_init_0 : decode cX4_init 0 = .ok (.aload_n 0, 1) := by decide +kernel
theorem dX4_init_1 : decode cX4_init 1 = .ok (.invokespecial 3, 3) := by decide +kernel
theorem dX4_init_4 : decode cX4_init 4 = .ok (.aload_n 0, 1) := by decide +kernel
theorem dX4_init_5 : decode cX4_init 5 = .ok (.iconst 0, 1) := by decide +kernel
theorem dX4_init_6 : decode cX4_init 6 = .ok (.putfield 9, 3) := by decide +kernel
theorem dX4_init_9 : decode cX4_init 9 = .ok (.aload_n 0, 1) := by decide +kernel
theorem dX4_init_10 : decode cX4_init 10 = .ok (.iconst 0, 1) := by decide +kernel
theorem dX4_init_11 : decode cX4_init 11 = .ok (.putfield 15, 3) := by decide +kernel
theorem dX4_init_14 : decode cX4_init 14 = .ok (.aload_n 0, 1) := by decide +kernel
theorem dX4_init_15 : decode cX4_init 15 = .ok (.iconst 1, 1) := by decide +kernel
theorem dX4_init_16 : decode cX4_init 16 = .ok (.putfield 18, 3) := by decide +kernel
theorem dX4_init_19 : decode cX4_init 19 = .ok (.aload_n 0, 1) := by decide +kernel
theorem dX4_init_20 : decode cX4_init 20 = .ok (.iconst 0, 1) := by decide +kernel
theorem dX4_init_21 : decode cX4_init 21 = .ok (.putfield 21, 3) := by decide +kernel
theorem dX4_init_24 : decode cX4_init 24 = .ok (.aload_n 0, 1) := by decide +kernel
theorem dX4_init_25 : decode cX4_init 25 = .ok (.iconst 0, 1) := by decide +kernel
theorem dX4_init_26 : decode cX4_init 26 = .ok (.putfield 24, 3) := by decide +kernel
theorem dX4_init_29 : decode cX4_init 29 = .ok (.aload_n 0, 1) := by decide +kernel
theorem dX4_init_30 : decode cX4_init 30 = .ok (.iconst 2, 1) := by decide +kernel
theorem dX4_init_31 : decode cX4_init 31 = .ok (.newarray .int, 2) := by decide +kernel
theorem dX4_init_33 : decode cX4_init 33 = .ok (.putfield 27, 3) := by decide +kernel
theorem dX4_init_36 : decode cX4_init 36 = .ok (.aload_n 0, 1) := by decide +kernel
theorem dX4_init_37 : decode cX4_init 37 = .ok (.iconst 4, 1) := by decide +kernel
theorem dX4_init_38 : decode cX4_init 38 = .ok (.newarray .int, 2) := by decide +kernel
theorem dX4_init_40 : decode cX4_init 40 = .ok (.putfield 31, 3) := by decide +kernel
theorem dX4_init_43 : decode cX4_init 43 = .ok (.return_, 1) := by decide +kernel
theorem dX4_found_0 : decode cX4_found 0 = .ok (.aload_n 0, 1) := by decide +kernel
theorem dX4_found_1 : decode cX4_found 1 = .ok (.getfield 15, 3) := by decide +kernel
theorem dX4_found_4 : decode cX4_found 4 = .ok (.iload_n 1, 1) := by decide +kernel
theorem dX4_found_5 : decode cX4_found 5 = .ok (.imul, 1) := by decide +kernel
theorem dX4_found_6 : decode cX4_found 6 = .ok (.bipush 100, 2) := by decide +kernel
theorem dX4_found_8 : decode cX4_found 8 = .ok (.iconst 0, 1) := by decide +kernel
theorem dX4_found_9 : decode cX4_found 9 = .ok (.iload_n 2, 1) := by decide +kernel
theorem dX4_found_10 : decode cX4_found 10 = .ok (.aload_n 0, 1) := by decide +kernel
theorem dX4_found_11 : decode cX4_found 11 = .ok (.getfield 9, 3) := by decide +kernel
theorem dX4_found_14 : decode cX4_found 14 = .ok (.isub, 1) := by decide +kernel
theorem dX4_found_15 : decode cX4_found 15 = .ok (.invokestatic 34, 3) := by decide +kernel
theorem dX4_found_18 : decode cX4_found 18 = .ok (.imul, 1) := by decide +kernel
theorem dX4_found_19 : decode cX4_found 19 = .ok (.aload_n 0, 1) := by decide +kernel
theorem dX4_found_20 : decode cX4_found 20 = .ok (.getfield 18, 3) := by decide +kernel
theorem dX4_found_23 : decode cX4_found 23 = .ok (.idiv, 1) := by decide +kernel
theorem dX4_found_24 : decode cX4_found 24 = .ok (.iadd, 1) := by decide +kernel
theorem dX4_found_25 : decode cX4_found 25 = .ok (.ireturn, 1) := by decide +kernel
theorem dX4_mlOfScale_0 : decode cX4_mlOfScale 0 = .ok (.bipush 100, 2) := by decide +kernel
theorem dX4_mlOfScale_2 : decode cX4_mlOfScale 2 = .ok (.iload_n 1, 1) := by decide +kernel
theorem dX4_mlOfScale_3 : decode cX4_mlOfScale 3 = .ok (.imul, 1) := by decide +kernel
theorem dX4_mlOfScale_4 : decode cX4_mlOfScale 4 = .ok (.aload_n 0, 1) := by decide +kernel
theorem dX4_mlOfScale_5 : decode cX4_mlOfScale 5 = .ok (.getfield 18, 3) := by decide +kernel
theorem dX4_mlOfScale_8 : decode cX4_mlOfScale 8 = .ok (.iadd, 1) := by decide +kernel
theorem dX4_mlOfScale_9 : decode cX4_mlOfScale 9 = .ok (.iconst 1, 1) := by decide +kernel
theorem dX4_mlOfScale_10 : decode cX4_mlOfScale 10 = .ok (.isub, 1) := by decide +kernel
theorem dX4_mlOfScale_11 : decode cX4_mlOfScale 11 = .ok (.aload_n 0, 1) := by decide +kernel
theorem dX4_mlOfScale_12 : decode cX4_mlOfScale 12 = .ok (.getfield 18, 3) := by decide +kernel
theorem dX4_mlOfScale_15 : decode cX4_mlOfScale 15 = .ok (.idiv, 1) := by decide +kernel
theorem dX4_mlOfScale_16 : decode cX4_mlOfScale 16 = .ok (.ireturn, 1) := by decide +kernel
theorem dX4_move_0 : decode cX4_move 0 = .ok (.iload_n 1, 1) := by decide +kernel
theorem dX4_move_1 : decode cX4_move 1 = .ok (.tableswitch 103 0 2 #[27, 50, 78], 27) := by decide +kernel
theorem dX4_move_28 : decode cX4_move 28 = .ok (.aload_n 0, 1) := by decide +kernel
theorem dX4_move_29 : decode cX4_move 29 = .ok (.dup, 1) := by decide +kernel
theorem dX4_move_30 : decode cX4_move 30 = .ok (.getfield 21, 3) := by decide +kernel
theorem dX4_move_33 : decode cX4_move 33 = .ok (.iload_n 3, 1) := by decide +kernel
theorem dX4_move_34 : decode cX4_move 34 = .ok (.iadd, 1) := by decide +kernel
theorem dX4_move_35 : decode cX4_move 35 = .ok (.putfield 21, 3) := by decide +kernel
theorem dX4_move_38 : decode cX4_move 38 = .ok (.aload_n 0, 1) := by decide +kernel
theorem dX4_move_39 : decode cX4_move 39 = .ok (.dup, 1) := by decide +kernel
theorem dX4_move_40 : decode cX4_move 40 = .ok (.getfield 24, 3) := by decide +kernel
theorem dX4_move_43 : decode cX4_move 43 = .ok (.iload_n 3, 1) := by decide +kernel
theorem dX4_move_44 : decode cX4_move 44 = .ok (.iadd, 1) := by decide +kernel
theorem dX4_move_45 : decode cX4_move 45 = .ok (.putfield 24, 3) := by decide +kernel
theorem dX4_move_48 : decode cX4_move 48 = .ok (.goto 78, 3) := by decide +kernel
theorem dX4_move_51 : decode cX4_move 51 = .ok (.aload_n 0, 1) := by decide +kernel
theorem dX4_move_52 : decode cX4_move 52 = .ok (.dup, 1) := by decide +kernel
theorem dX4_move_53 : decode cX4_move 53 = .ok (.getfield 21, 3) := by decide +kernel
theorem dX4_move_56 : decode cX4_move 56 = .ok (.iload_n 3, 1) := by decide +kernel
theorem dX4_move_57 : decode cX4_move 57 = .ok (.isub, 1) := by decide +kernel
theorem dX4_move_58 : decode cX4_move 58 = .ok (.putfield 21, 3) := by decide +kernel
theorem dX4_move_61 : decode cX4_move 61 = .ok (.aload_n 0, 1) := by decide +kernel
theorem dX4_move_62 : decode cX4_move 62 = .ok (.getfield 27, 3) := by decide +kernel
theorem dX4_move_65 : decode cX4_move 65 = .ok (.iload_n 2, 1) := by decide +kernel
theorem dX4_move_66 : decode cX4_move 66 = .ok (.dup2, 1) := by decide +kernel
theorem dX4_move_67 : decode cX4_move 67 = .ok (.iaload, 1) := by decide +kernel
theorem dX4_move_68 : decode cX4_move 68 = .ok (.iload_n 3, 1) := by decide +kernel
theorem dX4_move_69 : decode cX4_move 69 = .ok (.aload_n 0, 1) := by decide +kernel
theorem dX4_move_70 : decode cX4_move 70 = .ok (.getfield 15, 3) := by decide +kernel
theorem dX4_move_73 : decode cX4_move 73 = .ok (.imul, 1) := by decide +kernel
theorem dX4_move_74 : decode cX4_move 74 = .ok (.iadd, 1) := by decide +kernel
theorem dX4_move_75 : decode cX4_move 75 = .ok (.iastore, 1) := by decide +kernel
theorem dX4_move_76 : decode cX4_move 76 = .ok (.goto 50, 3) := by decide +kernel
theorem dX4_move_79 : decode cX4_move 79 = .ok (.aload_n 0, 1) := by decide +kernel
theorem dX4_move_80 : decode cX4_move 80 = .ok (.getfield 27, 3) := by decide +kernel
theorem dX4_move_83 : decode cX4_move 83 = .ok (.iload_n 2, 1) := by decide +kernel
theorem dX4_move_84 : decode cX4_move 84 = .ok (.dup2, 1) := by decide +kernel
theorem dX4_move_85 : decode cX4_move 85 = .ok (.iaload, 1) := by decide +kernel
theorem dX4_move_86 : decode cX4_move 86 = .ok (.iload_n 3, 1) := by decide +kernel
theorem dX4_move_87 : decode cX4_move 87 = .ok (.isub, 1) := by decide +kernel
theorem dX4_move_88 : decode cX4_move 88 = .ok (.iastore, 1) := by decide +kernel
theorem dX4_move_89 : decode cX4_move 89 = .ok (.aload_n 0, 1) := by decide +kernel
theorem dX4_move_90 : decode cX4_move 90 = .ok (.getfield 27, 3) := by decide +kernel
theorem dX4_move_93 : decode cX4_move 93 = .ok (.iconst 1, 1) := by decide +kernel
theorem dX4_move_94 : decode cX4_move 94 = .ok (.iload_n 2, 1) := by decide +kernel
theorem dX4_move_95 : decode cX4_move 95 = .ok (.isub, 1) := by decide +kernel
theorem dX4_move_96 : decode cX4_move 96 = .ok (.dup2, 1) := by decide +kernel
theorem dX4_move_97 : decode cX4_move 97 = .ok (.iaload, 1) := by decide +kernel
theorem dX4_move_98 : decode cX4_move 98 = .ok (.iload_n 3, 1) := by decide +kernel
theorem dX4_move_99 : decode cX4_move 99 = .ok (.iadd, 1) := by decide +kernel
theorem dX4_move_100 : decode cX4_move 100 = .ok (.iastore, 1) := by decide +kernel
theorem dX4_move_101 : decode cX4_move 101 = .ok (.goto 25, 3) := by decide +kernel
theorem dX4_move_104 : decode cX4_move 104 = .ok (.aload_n 0, 1) := by decide +kernel
theorem dX4_move_105 : decode cX4_move 105 = .ok (.getfield 27, 3) := by decide +kernel
theorem dX4_move_108 : decode cX4_move 108 = .ok (.iload_n 2, 1) := by decide +kernel
theorem dX4_move_109 : decode cX4_move 109 = .ok (.dup2, 1) := by decide +kernel
theorem dX4_move_110 : decode cX4_move 110 = .ok (.iaload, 1) := by decide +kernel
theorem dX4_move_111 : decode cX4_move 111 = .ok (.iload_n 3, 1) := by decide +kernel
theorem dX4_move_112 : decode cX4_move 112 = .ok (.isub, 1) := by decide +kernel
theorem dX4_move_113 : decode cX4_move 113 = .ok (.iastore, 1) := by decide +kernel
theorem dX4_move_114 : decode cX4_move 114 = .ok (.aload_n 0, 1) := by decide +kernel
theorem dX4_move_115 : decode cX4_move 115 = .ok (.getfield 31, 3) := by decide +kernel
theorem dX4_move_118 : decode cX4_move 118 = .ok (.iload_n 1, 1) := by decide +kernel
theorem dX4_move_119 : decode cX4_move 119 = .ok (.iconst 3, 1) := by decide +kernel
theorem dX4_move_120 : decode cX4_move 120 = .ok (.isub, 1) := by decide +kernel
theorem dX4_move_121 : decode cX4_move 121 = .ok (.dup2, 1) := by decide +kernel
theorem dX4_move_122 : decode cX4_move 122 = .ok (.iaload, 1) := by decide +kernel
theorem dX4_move_123 : decode cX4_move 123 = .ok (.iload_n 3, 1) := by decide +kernel
theorem dX4_move_124 : decode cX4_move 124 = .ok (.iadd, 1) := by decide +kernel
theorem dX4_move_125 : decode cX4_move 125 = .ok (.iastore, 1) := by decide +kernel
theorem dX4_move_126 : decode cX4_move 126 = .ok (.return_, 1) := by decide +kernel
theorem dX5_init_0 : decode cX5_init 0 = .ok (.aload_n 0, 1) := by decide +kernel
theorem dX5_init_1 : decode cX5_init 1 = .ok (.invokespecial 3, 3) := by decide +kernel
theorem dX5_init_4 : decode cX5_init 4 = .ok (.aload_n 0, 1) := by decide +kernel
theorem dX5_init_5 : decode cX5_init 5 = .ok (.iconst 0, 1) := by decide +kernel
theorem dX5_init_6 : decode cX5_init 6 = .ok (.putfield 9, 3) := by decide +kernel
theorem dX5_init_9 : decode cX5_init 9 = .ok (.aload_n 0, 1) := by decide +kernel
theorem dX5_init_10 : decode cX5_init 10 = .ok (.iconst 0, 1) := by decide +kernel
theorem dX5_init_11 : decode cX5_init 11 = .ok (.putfield 15, 3) := by decide +kernel
theorem dX5_init_14 : decode cX5_init 14 = .ok (.aload_n 0, 1) := by decide +kernel
theorem dX5_init_15 : decode cX5_init 15 = .ok (.iconst 0, 1) := by decide +kernel
theorem dX5_init_16 : decode cX5_init 16 = .ok (.putfield 18, 3) := by decide +kernel
theorem dX5_init_19 : decode cX5_init 19 = .ok (.aload_n 0, 1) := by decide +kernel
theorem dX5_init_20 : decode cX5_init 20 = .ok (.iconst 0, 1) := by decide +kernel
theorem dX5_init_21 : decode cX5_init 21 = .ok (.putfield 21, 3) := by decide +kernel
theorem dX5_init_24 : decode cX5_init 24 = .ok (.return_, 1) := by decide +kernel
set_option maxRecDepth 20000 in
theorem ggX5_holds_X5_hasDay : GoodIn wsX5_holds wsX5_hasDay := goodIn_r _ [7, 8, 9, 10, 11, 12] (by decide +kernel) (by decide +kernel)
set_option maxRecDepth 20000 in
theorem gX5_holds_X5_hasDay : GoodIn wsX5_holds (wsV RX5 24 RX5 yX5_hasDay wsX5_hasDay) := goodIn_app (goodIn_of _ (by decide +kernel)) ggX5_holds_X5_hasDay
theorem dX5_holds_0 : decode cX5_holds 0 = .ok (.aload_n 0, 1) := by decide +kernel
theorem dX5_holds_1 : decode cX5_holds 1 = .ok (.getfield 15, 3) := by decide +kernel
theorem dX5_holds_4 : decode cX5_holds 4 = .ok (.aload_n 0, 1) := by decide +kernel
theorem dX5_holds_5 : decode cX5_holds 5 = .ok (.getfield 18, 3) := by decide +kernel
theorem dX5_holds_8 : decode cX5_holds 8 = .ok (.if_icmp .ge 33, 3) := by decide +kernel
theorem dX5_holds_11 : decode cX5_holds 11 = .ok (.aload_n 0, 1) := by decide +kernel
theorem dX5_holds_12 : decode cX5_holds 12 = .ok (.iload_n 1, 1) := by decide +kernel
theorem dX5_holds_13 : decode cX5_holds 13 = .ok (.invokevirtual 24, 3) := by decide +kernel
theorem dX5_holds_16 : decode cX5_holds 16 = .ok (.ifCond .eq 23, 3) := by decide +kernel
theorem dX5_holds_19 : decode cX5_holds 19 = .ok (.aload_n 0, 1) := by decide +kernel
theorem dX5_holds_20 : decode cX5_holds 20 = .ok (.getfield 15, 3) := by decide +kernel
theorem dX5_holds_23 : decode cX5_holds 23 = .ok (.iload_n 2, 1) := by decide +kernel
theorem dX5_holds_24 : decode cX5_holds 24 = .ok (.if_icmp .gt 15, 3) := by decide +kernel
theorem dX5_holds_27 : decode cX5_holds 27 = .ok (.iload_n 2, 1) := by decide +kernel
theorem dX5_holds_28 : decode cX5_holds 28 = .ok (.aload_n 0, 1) := by decide +kernel
theorem dX5_holds_29 : decode cX5_holds 29 = .ok (.getfield 18, 3) := by decide +kernel
theorem dX5_holds_32 : decode cX5_holds 32 = .ok (.if_icmp .ge 7, 3) := by decide +kernel
theorem dX5_holds_35 : decode cX5_holds 35 = .ok (.iconst 1, 1) := by decide +kernel
theorem dX5_holds_36 : decode cX5_holds 36 = .ok (.goto 4, 3) := by decide +kernel
theorem dX5_holds_39 : decode cX5_holds 39 = .ok (.iconst 0, 1) := by decide +kernel
theorem dX5_holds_40 : decode cX5_holds 40 = .ok (.ireturn, 1) := by decide +kernel
theorem dX5_holds_41 : decode cX5_holds 41 = .ok (.iload_n 1, 1) := by decide +kernel
theorem dX5_holds_42 : decode cX5_holds 42 = .ok (.ifCond .ne 8, 3) := by decide +kernel
theorem dX5_holds_45 : decode cX5_holds 45 = .ok (.bipush 6, 2) := by decide +kernel
theorem dX5_holds_47 : decode cX5_holds 47 = .ok (.goto 6, 3) := by decide +kernel
theorem dX5_holds_50 : decode cX5_holds 50 = .ok (.iload_n 1, 1) := by decide +kernel
theorem dX5_holds_51 : decode cX5_holds 51 = .ok (.iconst 1, 1) := by decide +kernel
theorem dX5_holds_52 : decode cX5_holds 52 = .ok (.isub, 1) := by decide +kernel
theorem dX5_holds_53 : decode cX5_holds 53 = .ok (.istore_n 3, 1) := by decide +kernel
theorem dX5_holds_54 : decode cX5_holds 54 = .ok (.aload_n 0, 1) := by decide +kernel
theorem dX5_holds_55 : decode cX5_holds 55 = .ok (.iload_n 1, 1) := by decide +kernel
theorem dX5_holds_56 : decode cX5_holds 56 = .ok (.invokevirtual 24, 3) := by decide +kernel
theorem dX5_holds_59 : decode cX5_holds 59 = .ok (.ifCond .eq 11, 3) := by decide +kernel
theorem dX5_holds_62 : decode cX5_holds 62 = .ok (.aload_n 0, 1) := by decide +kernel
theorem dX5_holds_63 : decode cX5_holds 63 = .ok (.getfield 15, 3) := by decide +kernel
theorem dX5_holds_66 : decode cX5_holds 66 = .ok (.iload_n 2, 1) := by decide +kernel
theorem dX5_holds_67 : decode cX5_holds 67 = .ok (.if_icmp .le 19, 3) := by decide +kernel
theorem dX5_holds_70 : decode cX5_holds 70 = .ok (.aload_n 0, 1) := by decide +kernel
theorem dX5_holds_71 : decode cX5_holds 71 = .ok (.iload_n 3, 1) := by decide +kernel
theorem dX5_holds_72 : decode cX5_holds 72 = .ok (.invokevirtual 24, 3) := by decide +kernel
theorem dX5_holds_75 : decode cX5_holds 75 = .ok (.ifCond .eq 15, 3) := by decide +kernel
theorem dX5_holds_78 : decode cX5_holds 78 = .ok (.iload_n 2, 1) := by decide +kernel
theorem dX5_holds_79 : decode cX5_holds 79 = .ok (.aload_n 0, 1) := by decide +kernel
theorem dX5_holds_80 : decode cX5_holds 80 = .ok (.getfield 18, 3) := by decide +kernel
theorem dX5_holds_83 : decode cX5_holds 83 = .ok (.if_icmp .ge 7, 3) := by decide +kernel
theorem dX5_holds_86 : decode cX5_holds 86 = .ok (.iconst 1, 1) := by decide +kernel
theorem dX5_holds_87 : decode cX5_holds 87 = .ok (.goto 4, 3) := by decide +kernel
theorem dX5_holds_90 : decode cX5_holds 90 = .ok (.iconst 0, 1) := by decide +kernel
theorem dX5_holds_91 : decode cX5_holds 91 = .ok (.ireturn, 1) := by decide +kernel
theorem dX5_hasDay_0 : decode cX5_hasDay 0 = .ok (.aload_n 0, 1) := by decide +kernel
theorem dX5_hasDay_1 : decode cX5_hasDay 1 = .ok (.getfield 9, 3) := by decide +kernel
theorem dX5_hasDay_4 : decode cX5_hasDay 4 = .ok (.iload_n 1, 1) := by decide +kernel
theorem dX5_hasDay_5 : decode cX5_hasDay 5 = .ok (.ishr, 1) := by decide +kernel
theorem dX5_hasDay_6 : decode cX5_hasDay 6 = .ok (.iconst 1, 1) := by decide +kernel
theorem dX5_hasDay_7 : decode cX5_hasDay 7 = .ok (.iand, 1) := by decide +kernel
theorem dX5_hasDay_8 : decode cX5_hasDay 8 = .ok (.iconst 1, 1) := by decide +kernel
theorem dX5_hasDay_9 : decode cX5_hasDay 9 = .ok (.if_icmp .ne 7, 3) := by decide +kernel
theorem dX5_hasDay_12 : decode cX5_hasDay 12 = .ok (.iconst 1, 1) := by decide +kernel
theorem dX5_hasDay_13 : decode cX5_hasDay 13 = .ok (.goto 4, 3) := by decide +kernel
theorem dX5_hasDay_16 : decode cX5_hasDay 16 = .ok (.iconst 0, 1) := by decide +kernel
theorem dX5_hasDay_17 : decode cX5_hasDay 17 = .ok (.ireturn, 1) := by decide +kernel
theorem dX6_init_0 : decode cX6_init 0 = .ok (.aload_n 0, 1) := by decide +kernel
theorem dX6_init_1 : decode cX6_init 1 = .ok (.invokespecial 3, 3) := by decide +kernel
theorem dX6_init_4 : decode cX6_init 4 = .ok (.aload_n 0, 1) := by decide +kernel
theorem dX6_init_5 : decode cX6_init 5 = .ok (.iconst 0, 1) := by decide +kernel
theorem dX6_init_6 : decode cX6_init 6 = .ok (.putfield 9, 3) := by decide +kernel
theorem dX6_init_9 : decode cX6_init 9 = .ok (.aload_n 0, 1) := by decide +kernel
theorem dX6_init_10 : decode cX6_init 10 = .ok (.iconst (-1), 1) := by decide +kernel
theorem dX6_init_11 : decode cX6_init 11 = .ok (.putfield 15, 3) := by decide +kernel
theorem dX6_init_14 : decode cX6_init 14 = .ok (.aload_n 0, 1) := by decide +kernel
theorem dX6_init_15 : decode cX6_init 15 = .ok (.iconst 0, 1) := by decide +kernel
theorem dX6_init_16 : decode cX6_init 16 = .ok (.putfield 18, 3) := by decide +kernel
theorem dX6_init_19 : decode cX6_init 19 = .ok (.aload_n 0, 1) := by decide +kernel
theorem dX6_init_20 : decode cX6_init 20 = .ok (.bipush 10, 2) := by decide +kernel
theorem dX6_init_22 : decode cX6_init 22 = .ok (.newarray .int, 2) := by decide +kernel
theorem dX6_init_24 : decode cX6_init 24 = .ok (.putfield 21, 3) := by decide +kernel
theorem dX6_init_27 : decode cX6_init 27 = .ok (.return_, 1) := by decide +kernel
theorem dX6_putParts_0 : decode cX6_putParts 0 = .ok (.aload_n 0, 1) := by decide +kernel
theorem dX6_putParts_1 : decode cX6_putParts 1 = .ok (.getfield 21, 3) := by decide +kernel
theorem dX6_putParts_4 : decode cX6_putParts 4 = .ok (.iload_n 1, 1) := by decide +kernel
theorem dX6_putParts_5 : decode cX6_putParts 5 = .ok (.iaload, 1) := by decide +kernel
theorem dX6_putParts_6 : decode cX6_putParts 6 = .ok (.istore_n 3, 1) := by decide +kernel
theorem dX6_putParts_7 : decode cX6_putParts 7 = .ok (.aload_n 0, 1) := by decide +kernel
theorem dX6_putParts_8 : decode cX6_putParts 8 = .ok (.getfield 21, 3) := by decide +kernel
theorem dX6_putParts_11 : decode cX6_putParts 11 = .ok (.iload_n 1, 1) := by decide +kernel
theorem dX6_putParts_12 : decode cX6_putParts 12 = .ok (.iload_n 2, 1) := by decide +kernel
theorem dX6_putParts_13 : decode cX6_putParts 13 = .ok (.iastore, 1) := by decide +kernel
theorem dX6_putParts_14 : decode cX6_putParts 14 = .ok (.aload_n 0, 1) := by decide +kernel
theorem dX6_putParts_15 : decode cX6_putParts 15 = .ok (.iload_n 2, 1) := by decide +kernel
theorem dX6_putParts_16 : decode cX6_putParts 16 = .ok (.ifCond .le 14, 3) := by decide +kernel
theorem dX6_putParts_19 : decode cX6_putParts 19 = .ok (.aload_n 0, 1) := by decide +kernel
theorem dX6_putParts_20 : decode cX6_putParts 20 = .ok (.getfield 18, 3) := by decide +kernel
theorem dX6_putParts_23 : decode cX6_putParts 23 = .ok (.iconst 1, 1) := by decide +kernel
theorem dX6_putParts_24 : decode cX6_putParts 24 = .ok (.iload_n 1, 1) := by decide +kernel
theorem dX6_putParts_25 : decode cX6_putParts 25 = .ok (.ishl, 1) := by decide +kernel
theorem dX6_putParts_26 : decode cX6_putParts 26 = .ok (.ior, 1) := by decide +kernel
theorem dX6_putParts_27 : decode cX6_putParts 27 = .ok (.goto 13, 3) := by decide +kernel
theorem dX6_putParts_30 : decode cX6_putParts 30 = .ok (.aload_n 0, 1) := by decide +kernel
theorem dX6_putParts_31 : decode cX6_putParts 31 = .ok (.getfield 18, 3) := by decide +kernel
theorem dX6_putParts_34 : decode cX6_putParts 34 = .ok (.iconst 1, 1) := by decide +kernel
theorem dX6_putParts_35 : decode cX6_putParts 35 = .ok (.iload_n 1, 1) := by decide +kernel
theorem dX6_putParts_36 : decode cX6_putParts 36 = .ok (.ishl, 1) := by decide +kernel
theorem dX6_putParts_37 : decode cX6_putParts 37 = .ok (.iconst (-1), 1) := by decide +kernel
theorem dX6_putParts_38 : decode cX6_putParts 38 = .ok (.ixor, 1) := by decide +kernel
theorem dX6_putParts_39 : decode cX6_putParts 39 = .ok (.iand, 1) := by decide +kernel
theorem dX6_putParts_40 : decode cX6_putParts 40 = .ok (.putfield 18, 3) := by decide +kernel
theorem dX6_putParts_43 : decode cX6_putParts 43 = .ok (.iload_n 3, 1) := by decide +kernel
theorem dX6_putParts_44 : decode cX6_putParts 44 = .ok (.ireturn, 1) := by decide +kernel
theorem dX6_canBeMadeBy_0 : decode cX6_canBeMadeBy 0 = .ok (.aload_n 0, 1) := by decide +kernel
theorem dX6_canBeMadeBy_1 : decode cX6_canBeMadeBy 1 = .ok (.getfield 18, 3) := by decide +kernel
theorem dX6_canBeMadeBy_4 : decode cX6_canBeMadeBy 4 = .ok (.ifCond .eq 18, 3) := by decide +kernel
theorem dX6_canBeMadeBy_7 : decode cX6_canBeMadeBy 7 = .ok (.aload_n 0, 1) := by decide +kernel
theorem dX6_canBeMadeBy_8 : decode cX6_canBeMadeBy 8 = .ok (.getfield 18, 3) := by decide +kernel
theorem dX6_canBeMadeBy_11 : decode cX6_canBeMadeBy 11 = .ok (.iload_n 1, 1) := by decide +kernel
theorem dX6_canBeMadeBy_12 : decode cX6_canBeMadeBy 12 = .ok (.iconst (-1), 1) := by decide +kernel
theorem dX6_canBeMadeBy_13 : decode cX6_canBeMadeBy 13 = .ok (.ixor, 1) := by decide +kernel
theorem dX6_canBeMadeBy_14 : decode cX6_canBeMadeBy 14 = .ok (.iand, 1) := by decide +kernel
theorem dX6_canBeMadeBy_15 : decode cX6_canBeMadeBy 15 = .ok (.ifCond .ne 7, 3) := by decide +kernel
theorem dX6_canBeMadeBy_18 : decode cX6_canBeMadeBy 18 = .ok (.iconst 1, 1) := by decide +kernel
theorem dX6_canBeMadeBy_19 : decode cX6_canBeMadeBy 19 = .ok (.goto 4, 3) := by decide +kernel
theorem dX6_canBeMadeBy_22 : decode cX6_canBeMadeBy 22 = .ok (.iconst 0, 1) := by decide +kernel
theorem dX6_canBeMadeBy_23 : decode cX6_canBeMadeBy 23 = .ok (.ireturn, 1) := by decide +kernel
theorem dX7_init_0 : decode cX7_init 0 = .ok (.aload_n 0, 1) := by decide +kernel
theorem dX7_init_1 : decode cX7_init 1 = .ok (.invokespecial 3, 3) := by decide +kernel
theorem dX7_init_4 : decode cX7_init 4 = .ok (.aload_n 0, 1) := by decide +kernel
theorem dX7_init_5 : decode cX7_init 5 = .ok (.iconst 0, 1) := by decide +kernel
theorem dX7_init_6 : decode cX7_init 6 = .ok (.putfield 9, 3) := by decide +kernel
theorem dX7_init_9 : decode cX7_init 9 = .ok (.aload_n 0, 1) := by decide +kernel
theorem dX7_init_10 : decode cX7_init 10 = .ok (.bipush 10, 2) := by decide +kernel
theorem dX7_init_12 : decode cX7_init 12 = .ok (.newarray .int, 2) := by decide +kernel
theorem dX7_init_14 : decode cX7_init 14 = .ok (.putfield 15, 3) := by decide +kernel
theorem dX7_init_17 : decode cX7_init 17 = .ok (.aload_n 0, 1) := by decide +kernel
theorem dX7_init_18 : decode cX7_init 18 = .ok (.bipush 10, 2) := by decide +kernel
theorem dX7_init_20 : decode cX7_init 20 = .ok (.newarray .boolean, 2) := by decide +kernel
theorem dX7_init_22 : decode cX7_init 22 = .ok (.putfield 19, 3) := by decide +kernel
theorem dX7_init_25 : decode cX7_init 25 = .ok (.aload_n 0, 1) := by decide +kernel
theorem dX7_init_26 : decode cX7_init 26 = .ok (.bipush 10, 2) := by decide +kernel
theorem dX7_init_28 : decode cX7_init 28 = .ok (.newarray .int, 2) := by decide +kernel
theorem dX7_init_30 : decode cX7_init 30 = .ok (.putfield 23, 3) := by decide +kernel
theorem dX7_init_33 : decode cX7_init 33 = .ok (.aload_n 0, 1) := by decide +kernel
theorem dX7_init_34 : decode cX7_init 34 = .ok (.bipush 10, 2) := by decide +kernel
theorem dX7_init_36 : decode cX7_init 36 = .ok (.newarray .int, 2) := by decide +kernel
theorem dX7_init_38 : decode cX7_init 38 = .ok (.putfield 26, 3) := by decide +kernel
theorem dX7_init_41 : decode cX7_init 41 = .ok (.return_, 1) := by decide +kernel
theorem dX7_isTold_0 : decode cX7_isTold 0 = .ok (.aload_n 0, 1) := by decide +kernel
theorem dX7_isTold_1 : decode cX7_isTold 1 = .ok (.getfield 19, 3) := by decide +kernel
theorem dX7_isTold_4 : decode cX7_isTold 4 = .ok (.iload_n 1, 1) := by decide +kernel
theorem dX7_isTold_5 : decode cX7_isTold 5 = .ok (.baload, 1) := by decide +kernel
theorem dX7_isTold_6 : decode cX7_isTold 6 = .ok (.ifCond .eq 25, 3) := by decide +kernel
theorem dX7_isTold_9 : decode cX7_isTold 9 = .ok (.aload_n 0, 1) := by decide +kernel
theorem dX7_isTold_10 : decode cX7_isTold 10 = .ok (.getfield 23, 3) := by decide +kernel
theorem dX7_isTold_13 : decode cX7_isTold 13 = .ok (.iload_n 1, 1) := by decide +kernel
theorem dX7_isTold_14 : decode cX7_isTold 14 = .ok (.iaload, 1) := by decide +kernel
theorem dX7_isTold_15 : decode cX7_isTold 15 = .ok (.invokestatic 29, 3) := by decide +kernel
theorem dX7_isTold_18 : decode cX7_isTold 18 = .ok (.aload_n 0, 1) := by decide +kernel
theorem dX7_isTold_19 : decode cX7_isTold 19 = .ok (.getfield 26, 3) := by decide +kernel
theorem dX7_isTold_22 : decode cX7_isTold 22 = .ok (.iload_n 1, 1) := by decide +kernel
theorem dX7_isTold_23 : decode cX7_isTold 23 = .ok (.iaload, 1) := by decide +kernel
theorem dX7_isTold_24 : decode cX7_isTold 24 = .ok (.if_icmp .le 7, 3) := by decide +kernel
theorem dX7_isTold_27 : decode cX7_isTold 27 = .ok (.iconst 1, 1) := by decide +kernel
theorem dX7_isTold_28 : decode cX7_isTold 28 = .ok (.goto 4, 3) := by decide +kernel
theorem dX7_isTold_31 : decode cX7_isTold 31 = .ok (.iconst 0, 1) := by decide +kernel
theorem dX7_isTold_32 : decode cX7_isTold 32 = .ok (.ireturn, 1) := by decide +kernel
theorem dX7_judges_0 : decode cX7_judges 0 = .ok (.aload_n 0, 1) := by decide +kernel
theorem dX7_judges_1 : decode cX7_judges 1 = .ok (.getfield 9, 3) := by decide +kernel
theorem dX7_judges_4 : decode cX7_judges 4 = .ok (.iload_n 1, 1) := by decide +kernel
theorem dX7_judges_5 : decode cX7_judges 5 = .ok (.if_icmp .ne 25, 3) := by decide +kernel
theorem dX7_judges_8 : decode cX7_judges 8 = .ok (.aload_n 0, 1) := by decide +kernel
theorem dX7_judges_9 : decode cX7_judges 9 = .ok (.getfield 19, 3) := by decide +kernel
theorem dX7_judges_12 : decode cX7_judges 12 = .ok (.iload_n 2, 1) := by decide +kernel
theorem dX7_judges_13 : decode cX7_judges 13 = .ok (.baload, 1) := by decide +kernel
theorem dX7_judges_14 : decode cX7_judges 14 = .ok (.ifCond .eq 16, 3) := by decide +kernel
theorem dX7_judges_17 : decode cX7_judges 17 = .ok (.aload_n 0, 1) := by decide +kernel
theorem dX7_judges_18 : decode cX7_judges 18 = .ok (.getfield 15, 3) := by decide +kernel
theorem dX7_judges_21 : decode cX7_judges 21 = .ok (.iload_n 2, 1) := by decide +kernel
theorem dX7_judges_22 : decode cX7_judges 22 = .ok (.iaload, 1) := by decide +kernel
theorem dX7_judges_23 : decode cX7_judges 23 = .ok (.ifCond .le 7, 3) := by decide +kernel
theorem dX7_judges_26 : decode cX7_judges 26 = .ok (.iconst 1, 1) := by decide +kernel
theorem dX7_judges_27 : decode cX7_judges 27 = .ok (.goto 4, 3) := by decide +kernel
theorem dX7_judges_30 : decode cX7_judges 30 = .ok (.iconst 0, 1) := by decide +kernel
theorem dX7_judges_31 : decode cX7_judges 31 = .ok (.ireturn, 1) := by decide +kernel
theorem dX8_init_0 : decode cX8_init 0 = .ok (.aload_n 0, 1) := by decide +kernel
theorem dX8_init_1 : decode cX8_init 1 = .ok (.invokespecial 3, 3) := by decide +kernel
theorem dX8_init_4 : decode cX8_init 4 = .ok (.aload_n 0, 1) := by decide +kernel
theorem dX8_init_5 : decode cX8_init 5 = .ok (.bipush 6, 2) := by decide +kernel
theorem dX8_init_7 : decode cX8_init 7 = .ok (.newarray .int, 2) := by decide +kernel
theorem dX8_init_9 : decode cX8_init 9 = .ok (.putfield 9, 3) := by decide +kernel
theorem dX8_init_12 : decode cX8_init 12 = .ok (.return_, 1) := by decide +kernel
set_option maxRecDepth 20000 in
theorem ggX8_shareOf_X8_cutShare : GoodIn wsX8_shareOf wsX8_cutShare := goodIn_r _ [6, 1, 15] (by decide +kernel) (by decide +kernel)
set_option maxRecDepth 20000 in
theorem gX8_shareOf_X8_cutShare : GoodIn wsX8_shareOf (wsV RX8 15 RX8 yX8_cutShare wsX8_cutShare) := goodIn_app (goodIn_of _ (by decide +kernel)) ggX8_shareOf_X8_cutShare
set_option maxRecDepth 20000 in
theorem ggX8_shareOf_X8_aheadOf : GoodIn wsX8_shareOf wsX8_aheadOf := goodIn_r _ [10, 11, 12, 13, 5, 14, 1, 15] (by decide +kernel) (by decide +kernel)
set_option maxRecDepth 20000 in
theorem gX8_shareOf_X8_aheadOf : GoodIn wsX8_shareOf (wsV RX8 19 RX8 yX8_aheadOf wsX8_aheadOf) := goodIn_app (goodIn_of _ (by decide +kernel)) ggX8_shareOf_X8_aheadOf
theorem dX8_shareOf_0 : decode cX8_shareOf 0 = .ok (.lconst 0, 1) := by decide +kernel
theorem dX8_shareOf_1 : decode cX8_shareOf 1 = .ok (.lstore_n 3, 1) := by decide +kernel
theorem dX8_shareOf_2 : decode cX8_shareOf 2 = .ok (.iconst 0, 1) := by decide +kernel
theorem dX8_shareOf_3 : decode cX8_shareOf 3 = .ok (.istore 5, 2) := by decide +kernel
theorem dX8_shareOf_5 : decode cX8_shareOf 5 = .ok (.iload 5, 2) := by decide +kernel
theorem dX8_shareOf_7 : decode cX8_shareOf 7 = .ok (.bipush 6, 2) := by decide +kernel
theorem dX8_shareOf_9 : decode cX8_shareOf 9 = .ok (.if_icmp .ge 20, 3) := by decide +kernel
theorem dX8_shareOf_12 : decode cX8_shareOf 12 = .ok (.lload_n 3, 1) := by decide +kernel
theorem dX8_shareOf_13 : decode cX8_shareOf 13 = .ok (.aload_n 0, 1) := by decide +kernel
theorem dX8_shareOf_14 : decode cX8_shareOf 14 = .ok (.getfield 9, 3) := by decide +kernel
theorem dX8_shareOf_17 : decode cX8_shareOf 17 = .ok (.iload 5, 2) := by decide +kernel
theorem dX8_shareOf_19 : decode cX8_shareOf 19 = .ok (.iaload, 1) := by decide +kernel
theorem dX8_shareOf_20 : decode cX8_shareOf 20 = .ok (.i2l, 1) := by decide +kernel
theorem dX8_shareOf_21 : decode cX8_shareOf 21 = .ok (.ladd, 1) := by decide +kernel
theorem dX8_shareOf_22 : decode cX8_shareOf 22 = .ok (.lstore_n 3, 1) := by decide +kernel
theorem dX8_shareOf_23 : decode cX8_shareOf 23 = .ok (.iinc 5 1, 3) := by decide +kernel
theorem dX8_shareOf_26 : decode cX8_shareOf 26 = .ok (.goto (-21), 3) := by decide +kernel
theorem dX8_shareOf_29 : decode cX8_shareOf 29 = .ok (.lload_n 3, 1) := by decide +kernel
theorem dX8_shareOf_30 : decode cX8_shareOf 30 = .ok (.lconst 0, 1) := by decide +kernel
theorem dX8_shareOf_31 : decode cX8_shareOf 31 = .ok (.lcmp, 1) := by decide +kernel
theorem dX8_shareOf_32 : decode cX8_shareOf 32 = .ok (.ifCond .ne 6, 3) := by decide +kernel
theorem dX8_shareOf_35 : decode cX8_shareOf 35 = .ok (.bipush (-2), 2) := by decide +kernel
theorem dX8_shareOf_37 : decode cX8_shareOf 37 = .ok (.ireturn, 1) := by decide +kernel
theorem dX8_shareOf_38 : decode cX8_shareOf 38 = .ok (.iload_n 2, 1) := by decide +kernel
theorem dX8_shareOf_39 : decode cX8_shareOf 39 = .ok (.i2l, 1) := by decide +kernel
theorem dX8_shareOf_40 : decode cX8_shareOf 40 = .ok (.lstore 5, 2) := by decide +kernel
theorem dX8_shareOf_42 : decode cX8_shareOf 42 = .ok (.iconst 0, 1) := by decide +kernel
theorem dX8_shareOf_43 : decode cX8_shareOf 43 = .ok (.istore 7, 2) := by decide +kernel
theorem dX8_shareOf_45 : decode cX8_shareOf 45 = .ok (.iload 7, 2) := by decide +kernel
theorem dX8_shareOf_47 : decode cX8_shareOf 47 = .ok (.bipush 6, 2) := by decide +kernel
theorem dX8_shareOf_49 : decode cX8_shareOf 49 = .ok (.if_icmp .ge 22, 3) := by decide +kernel
theorem dX8_shareOf_52 : decode cX8_shareOf 52 = .ok (.lload 5, 2) := by decide +kernel
theorem dX8_shareOf_54 : decode cX8_shareOf 54 = .ok (.aload_n 0, 1) := by decide +kernel
theorem dX8_shareOf_55 : decode cX8_shareOf 55 = .ok (.iload 7, 2) := by decide +kernel
theorem dX8_shareOf_57 : decode cX8_shareOf 57 = .ok (.iload_n 2, 1) := by decide +kernel
theorem dX8_shareOf_58 : decode cX8_shareOf 58 = .ok (.lload_n 3, 1) := by decide +kernel
theorem dX8_shareOf_59 : decode cX8_shareOf 59 = .ok (.invokevirtual 15, 3) := by decide +kernel
theorem dX8_shareOf_62 : decode cX8_shareOf 62 = .ok (.lsub, 1) := by decide +kernel
theorem dX8_shareOf_63 : decode cX8_shareOf 63 = .ok (.lstore 5, 2) := by decide +kernel
theorem dX8_shareOf_65 : decode cX8_shareOf 65 = .ok (.iinc 7 1, 3) := by decide +kernel
theorem dX8_shareOf_68 : decode cX8_shareOf 68 = .ok (.goto (-23), 3) := by decide +kernel
theorem dX8_shareOf_71 : decode cX8_shareOf 71 = .ok (.aload_n 0, 1) := by decide +kernel
theorem dX8_shareOf_72 : decode cX8_shareOf 72 = .ok (.iload_n 1, 1) := by decide +kernel
theorem dX8_shareOf_73 : decode cX8_shareOf 73 = .ok (.iload_n 2, 1) := by decide +kernel
theorem dX8_shareOf_74 : decode cX8_shareOf 74 = .ok (.lload_n 3, 1) := by decide +kernel
theorem dX8_shareOf_75 : decode cX8_shareOf 75 = .ok (.invokevirtual 19, 3) := by decide +kernel
theorem dX8_shareOf_78 : decode cX8_shareOf 78 = .ok (.i2l, 1) := by decide +kernel
theorem dX8_shareOf_79 : decode cX8_shareOf 79 = .ok (.lload 5, 2) := by decide +kernel
theorem dX8_shareOf_81 : decode cX8_shareOf 81 = .ok (.lcmp, 1) := by decide +kernel
theorem dX8_shareOf_82 : decode cX8_shareOf 82 = .ok (.ifCond .ge 7, 3) := by decide +kernel
theorem dX8_shareOf_85 : decode cX8_shareOf 85 = .ok (.iconst 1, 1) := by decide +kernel
theorem dX8_shareOf_86 : decode cX8_shareOf 86 = .ok (.goto 4, 3) := by decide +kernel
theorem dX8_shareOf_89 : decode cX8_shareOf 89 = .ok (.iconst 0, 1) := by decide +kernel
theorem dX8_shareOf_90 : decode cX8_shareOf 90 = .ok (.istore 7, 2) := by decide +kernel
theorem dX8_shareOf_92 : decode cX8_shareOf 92 = .ok (.aload_n 0, 1) := by decide +kernel
theorem dX8_shareOf_93 : decode cX8_shareOf 93 = .ok (.iload_n 1, 1) := by decide +kernel
theorem dX8_shareOf_94 : decode cX8_shareOf 94 = .ok (.iload_n 2, 1) := by decide +kernel
theorem dX8_shareOf_95 : decode cX8_shareOf 95 = .ok (.lload_n 3, 1) := by decide +kernel
theorem dX8_shareOf_96 : decode cX8_shareOf 96 = .ok (.invokevirtual 15, 3) := by decide +kernel
theorem dX8_shareOf_99 : decode cX8_shareOf 99 = .ok (.l2i, 1) := by decide +kernel
theorem dX8_shareOf_100 : decode cX8_shareOf 100 = .ok (.iload 7, 2) := by decide +kernel
theorem dX8_shareOf_102 : decode cX8_shareOf 102 = .ok (.ifCond .eq 7, 3) := by decide +kernel
theorem dX8_shareOf_105 : decode cX8_shareOf 105 = .ok (.iconst 1, 1) := by decide +kernel
theorem dX8_shareOf_106 : decode cX8_shareOf 106 = .ok (.goto 4, 3) := by decide +kernel
theorem dX8_shareOf_109 : decode cX8_shareOf 109 = .ok (.iconst 0, 1) := by decide +kernel
theorem dX8_shareOf_110 : decode cX8_shareOf 110 = .ok (.iadd, 1) := by decide +kernel
theorem dX8_shareOf_111 : decode cX8_shareOf 111 = .ok (.ireturn, 1) := by decide +kernel
theorem dX8_cutShare_0 : decode cX8_cutShare 0 = .ok (.iload_n 2, 1) := by decide +kernel
theorem dX8_cutShare_1 : decode cX8_cutShare 1 = .ok (.i2l, 1) := by decide +kernel
theorem dX8_cutShare_2 : decode cX8_cutShare 2 = .ok (.aload_n 0, 1) := by decide +kernel
theorem dX8_cutShare_3 : decode cX8_cutShare 3 = .ok (.getfield 9, 3) := by decide +kernel
theorem dX8_cutShare_6 : decode cX8_cutShare 6 = .ok (.iload_n 1, 1) := by decide +kernel
theorem dX8_cutShare_7 : decode cX8_cutShare 7 = .ok (.iaload, 1) := by decide +kernel
theorem dX8_cutShare_8 : decode cX8_cutShare 8 = .ok (.i2l, 1) := by decide +kernel
theorem dX8_cutShare_9 : decode cX8_cutShare 9 = .ok (.lmul, 1) := by decide +kernel
theorem dX8_cutShare_10 : decode cX8_cutShare 10 = .ok (.lload_n 3, 1) := by decide +kernel
theorem dX8_cutShare_11 : decode cX8_cutShare 11 = .ok (.ldiv, 1) := by decide +kernel
theorem dX8_cutShare_12 : decode cX8_cutShare 12 = .ok (.lreturn, 1) := by decide +kernel
theorem dX8_rest_0 : decode cX8_rest 0 = .ok (.iload_n 2, 1) := by decide +kernel
theorem dX8_rest_1 : decode cX8_rest 1 = .ok (.i2l, 1) := by decide +kernel
theorem dX8_rest_2 : decode cX8_rest 2 = .ok (.aload_n 0, 1) := by decide +kernel
theorem dX8_rest_3 : decode cX8_rest 3 = .ok (.getfield 9, 3) := by decide +kernel
theorem dX8_rest_6 : decode cX8_rest 6 = .ok (.iload_n 1, 1) := by decide +kernel
theorem dX8_rest_7 : decode cX8_rest 7 = .ok (.iaload, 1) := by decide +kernel
theorem dX8_rest_8 : decode cX8_rest 8 = .ok (.i2l, 1) := by decide +kernel
theorem dX8_rest_9 : decode cX8_rest 9 = .ok (.lmul, 1) := by decide +kernel
theorem dX8_rest_10 : decode cX8_rest 10 = .ok (.lload_n 3, 1) := by decide +kernel
theorem dX8_rest_11 : decode cX8_rest 11 = .ok (.lrem, 1) := by decide +kernel
theorem dX8_rest_12 : decode cX8_rest 12 = .ok (.lreturn, 1) := by decide +kernel
set_option maxRecDepth 20000 in
theorem ggX8_aheadOf_X8_rest : GoodIn wsX8_aheadOf wsX8_rest := goodIn_r _ [5, 6, 7] (by decide +kernel) (by decide +kernel)
set_option maxRecDepth 20000 in
theorem gX8_aheadOf_X8_rest : GoodIn wsX8_aheadOf (wsV RX8 23 RX8 yX8_rest wsX8_rest) := goodIn_app (goodIn_of _ (by decide +kernel)) ggX8_aheadOf_X8_rest
theorem dX8_aheadOf_0 : decode cX8_aheadOf 0 = .ok (.aload_n 0, 1) := by decide +kernel
theorem dX8_aheadOf_1 : decode cX8_aheadOf 1 = .ok (.iload_n 1, 1) := by decide +kernel
theorem dX8_aheadOf_2 : decode cX8_aheadOf 2 = .ok (.iload_n 2, 1) := by decide +kernel
theorem dX8_aheadOf_3 : decode cX8_aheadOf 3 = .ok (.lload_n 3, 1) := by decide +kernel
theorem dX8_aheadOf_4 : decode cX8_aheadOf 4 = .ok (.invokevirtual 23, 3) := by decide +kernel
theorem dX8_aheadOf_7 : decode cX8_aheadOf 7 = .ok (.lstore 5, 2) := by decide +kernel
theorem dX8_aheadOf_9 : decode cX8_aheadOf 9 = .ok (.iconst 0, 1) := by decide +kernel
theorem dX8_aheadOf_10 : decode cX8_aheadOf 10 = .ok (.istore 7, 2) := by decide +kernel
theorem dX8_aheadOf_12 : decode cX8_aheadOf 12 = .ok (.iconst 0, 1) := by decide +kernel
theorem dX8_aheadOf_13 : decode cX8_aheadOf 13 = .ok (.istore 8, 2) := by decide +kernel
theorem dX8_aheadOf_15 : decode cX8_aheadOf 15 = .ok (.iload 8, 2) := by decide +kernel
theorem dX8_aheadOf_17 : decode cX8_aheadOf 17 = .ok (.bipush 6, 2) := by decide +kernel
theorem dX8_aheadOf_19 : decode cX8_aheadOf 19 = .ok (.if_icmp .ge 44, 3) := by decide +kernel
theorem dX8_aheadOf_22 : decode cX8_aheadOf 22 = .ok (.aload_n 0, 1) := by decide +kernel
theorem dX8_aheadOf_23 : decode cX8_aheadOf 23 = .ok (.iload 8, 2) := by decide +kernel
theorem dX8_aheadOf_25 : decode cX8_aheadOf 25 = .ok (.iload_n 2, 1) := by decide +kernel
theorem dX8_aheadOf_26 : decode cX8_aheadOf 26 = .ok (.lload_n 3, 1) := by decide +kernel
theorem dX8_aheadOf_27 : decode cX8_aheadOf 27 = .ok (.invokevirtual 23, 3) := by decide +kernel
theorem dX8_aheadOf_30 : decode cX8_aheadOf 30 = .ok (.lstore 9, 2) := by decide +kernel
theorem dX8_aheadOf_32 : decode cX8_aheadOf 32 = .ok (.lload 9, 2) := by decide +kernel
theorem dX8_aheadOf_34 : decode cX8_aheadOf 34 = .ok (.lload 5, 2) := by decide +kernel
theorem dX8_aheadOf_36 : decode cX8_aheadOf 36 = .ok (.lcmp, 1) := by decide +kernel
theorem dX8_aheadOf_37 : decode cX8_aheadOf 37 = .ok (.ifCond .gt 17, 3) := by decide +kernel
theorem dX8_aheadOf_40 : decode cX8_aheadOf 40 = .ok (.lload 9, 2) := by decide +kernel
theorem dX8_aheadOf_42 : decode cX8_aheadOf 42 = .ok (.lload 5, 2) := by decide +kernel
theorem dX8_aheadOf_44 : decode cX8_aheadOf 44 = .ok (.lcmp, 1) := by decide +kernel
theorem dX8_aheadOf_45 : decode cX8_aheadOf 45 = .ok (.ifCond .ne 12, 3) := by decide +kernel
theorem dX8_aheadOf_48 : decode cX8_aheadOf 48 = .ok (.iload 8, 2) := by decide +kernel
theorem dX8_aheadOf_50 : decode cX8_aheadOf 50 = .ok (.iload_n 1, 1) := by decide +kernel
theorem dX8_aheadOf_51 : decode cX8_aheadOf 51 = .ok (.if_icmp .ge 6, 3) := by decide +kernel
theorem dX8_aheadOf_54 : decode cX8_aheadOf 54 = .ok (.iinc 7 1, 3) := by decide +kernel
theorem dX8_aheadOf_57 : decode cX8_aheadOf 57 = .ok (.iinc 8 1, 3) := by decide +kernel
theorem dX8_aheadOf_60 : decode cX8_aheadOf 60 = .ok (.goto (-45), 3) := by decide +kernel
theorem dX8_aheadOf_63 : decode cX8_aheadOf 63 = .ok (.iload 7, 2) := by decide +kernel
theorem dX8_aheadOf_65 : decode cX8_aheadOf 65 = .ok (.ireturn, 1) := by decide +kernel
set_option maxRecDepth 20000 in
theorem ggX9_init_X1_init : GoodIn wsX9_init wsX1_init := goodIn_r _ [52, 53, 2, 3, 54, 55, 56, 57, 58, 59, 60, 61, 62, 63, 64, 65, 66, 67, 133, 134, 135, 164, 165, 166, 167, 168] (by decide +kernel) (by decide +kernel)
set_option maxRecDepth 20000 in
theorem gX9_init_X1_init : GoodIn wsX9_init (wsX1_init) := ggX9_init_X1_init
set_option maxRecDepth 20000 in
theorem ggX9_init_X3_init : GoodIn wsX9_init wsX3_init := goodIn_r _ [69, 70, 2, 3, 25, 71, 72, 73, 136, 137, 138] (by decide +kernel) (by decide +kernel)
set_option maxRecDepth 20000 in
theorem gX9_init_X3_init_n61 : GoodIn wsX9_init (wsX3_init) := ggX9_init_X3_init
set_option maxRecDepth 20000 in
theorem ggX9_init_X8_init : GoodIn wsX9_init wsX8_init := goodIn_r _ [75, 76, 2, 3, 25, 77, 139] (by decide +kernel) (by decide +kernel)
set_option maxRecDepth 20000 in
theorem gX9_init_X8_init_n77 : GoodIn wsX9_init (wsX8_init) := ggX9_init_X8_init
set_option maxRecDepth 20000 in
theorem ggX9_init_X2_init : GoodIn wsX9_init wsX2_init := goodIn_r _ [79, 80, 2, 3, 25, 81, 82, 83, 84, 85, 140, 141, 142, 143] (by decide +kernel) (by decide +kernel)
set_option maxRecDepth 20000 in
theorem gX9_init_X2_init_n84 : GoodIn wsX9_init (wsX2_init) := ggX9_init_X2_init
set_option maxRecDepth 20000 in
theorem ggX9_init_X4_init : GoodIn wsX9_init wsX4_init := goodIn_r _ [87, 88, 2, 3, 89, 90, 91, 92, 93, 25, 94, 95, 144, 145, 146, 147, 148, 149, 150] (by decide +kernel) (by decide +kernel)
set_option maxRecDepth 20000 in
theorem gX9_init_X4_init_n89 : GoodIn wsX9_init (wsX4_init) := ggX9_init_X4_init
set_option maxRecDepth 20000 in
theorem ggX9_init_X6_init : GoodIn wsX9_init wsX6_init := goodIn_r _ [97, 98, 2, 3, 99, 100, 101, 25, 102, 151, 152, 153, 154] (by decide +kernel) (by decide +kernel)
set_option maxRecDepth 20000 in
theorem gX9_init_X6_init_n90 : GoodIn wsX9_init (wsX6_init) := ggX9_init_X6_init
set_option maxRecDepth 20000 in
theorem ggX9_init_X7_init : GoodIn wsX9_init wsX7_init := goodIn_r _ [104, 105, 2, 3, 106, 25, 107, 108, 109, 110, 111, 155, 156, 157, 158, 159] (by decide +kernel) (by decide +kernel)
set_option maxRecDepth 20000 in
theorem gX9_init_X7_init_n91 : GoodIn wsX9_init (wsX7_init) := ggX9_init_X7_init
set_option maxRecDepth 20000 in
theorem ggX9_init_X5_init : GoodIn wsX9_init wsX5_init := goodIn_r _ [113, 114, 2, 3, 115, 116, 117, 118, 160, 161, 162, 163] (by decide +kernel) (by decide +kernel)
set_option maxRecDepth 20000 in
theorem gX9_init_X5_init_n92 : GoodIn wsX9_init (wsX5_init) := ggX9_init_X5_init
theorem dX9_init_0 : decode cX9_init 0 = .ok (.aload_n 0, 1) := by decide +kernel
theorem dX9_init_1 : decode cX9_init 1 = .ok (.invokespecial 1, 3) := by decide +kernel
theorem dX9_init_4 : decode cX9_init 4 = .ok (.aload_n 0, 1) := by decide +kernel
theorem dX9_init_5 : decode cX9_init 5 = .ok (.bipush 10, 2) := by decide +kernel
theorem dX9_init_7 : decode cX9_init 7 = .ok (.anewarray 9, 3) := by decide +kernel
theorem dX9_init_10 : decode cX9_init 10 = .ok (.putfield 11, 3) := by decide +kernel
theorem dX9_init_13 : decode cX9_init 13 = .ok (.aload_n 0, 1) := by decide +kernel
theorem dX9_init_14 : decode cX9_init 14 = .ok (.iconst 0, 1) := by decide +kernel
theorem dX9_init_15 : decode cX9_init 15 = .ok (.putfield 15, 3) := by decide +kernel
theorem dX9_init_18 : decode cX9_init 18 = .ok (.aload_n 0, 1) := by decide +kernel
theorem dX9_init_19 : decode cX9_init 19 = .ok (.bipush 12, 2) := by decide +kernel
theorem dX9_init_21 : decode cX9_init 21 = .ok (.anewarray 19, 3) := by decide +kernel
theorem dX9_init_24 : decode cX9_init 24 = .ok (.putfield 21, 3) := by decide +kernel
theorem dX9_init_27 : decode cX9_init 27 = .ok (.aload_n 0, 1) := by decide +kernel
theorem dX9_init_28 : decode cX9_init 28 = .ok (.iconst 0, 1) := by decide +kernel
theorem dX9_init_29 : decode cX9_init 29 = .ok (.putfield 25, 3) := by decide +kernel
theorem dX9_init_32 : decode cX9_init 32 = .ok (.aload_n 0, 1) := by decide +kernel
theorem dX9_init_33 : decode cX9_init 33 = .ok (.getstatic 28, 3) := by decide +kernel
theorem dX9_init_36 : decode cX9_init 36 = .ok (.invokevirtual 32, 3) := by decide +kernel
theorem dX9_init_39 : decode cX9_init 39 = .ok (.checkcast 33, 3) := by decide +kernel
theorem dX9_init_42 : decode cX9_init 42 = .ok (.putfield 37, 3) := by decide +kernel
theorem dX9_init_45 : decode cX9_init 45 = .ok (.aload_n 0, 1) := by decide +kernel
theorem dX9_init_46 : decode cX9_init 46 = .ok (.bipush 40, 2) := by decide +kernel
theorem dX9_init_48 : decode cX9_init 48 = .ok (.anewarray 40, 3) := by decide +kernel
theorem dX9_init_51 : decode cX9_init 51 = .ok (.putfield 42, 3) := by decide +kernel
theorem dX9_init_54 : decode cX9_init 54 = .ok (.aload_n 0, 1) := by decide +kernel
theorem dX9_init_55 : decode cX9_init 55 = .ok (.iconst 0, 1) := by decide +kernel
theorem dX9_init_56 : decode cX9_init 56 = .ok (.putfield 46, 3) := by decide +kernel
theorem dX9_init_59 : decode cX9_init 59 = .ok (.aload_n 0, 1) := by decide +kernel
theorem dX9_init_60 : decode cX9_init 60 = .ok (.new 49, 3) := by decide +kernel
theorem dX9_init_63 : decode cX9_init 63 = .ok (.dup, 1) := by decide +kernel
theorem dX9_init_64 : decode cX9_init 64 = .ok (.invokespecial 51, 3) := by decide +kernel
theorem dX9_init_67 : decode cX9_init 67 = .ok (.putfield 52, 3) := by decide +kernel
theorem dX9_init_70 : decode cX9_init 70 = .ok (.aload_n 0, 1) := by decide +kernel
theorem dX9_init_71 : decode cX9_init 71 = .ok (.iconst 2, 1) := by decide +kernel
theorem dX9_init_72 : decode cX9_init 72 = .ok (.newarray .int, 2) := by decide +kernel
theorem dX9_init_74 : decode cX9_init 74 = .ok (.putfield 56, 3) := by decide +kernel
theorem dX9_init_77 : decode cX9_init 77 = .ok (.aload_n 0, 1) := by decide +kernel
theorem dX9_init_78 : decode cX9_init 78 = .ok (.new 59, 3) := by decide +kernel
theorem dX9_init_81 : decode cX9_init 81 = .ok (.dup, 1) := by decide +kernel
theorem dX9_init_82 : decode cX9_init 82 = .ok (.invokespecial 61, 3) := by decide +kernel
theorem dX9_init_85 : decode cX9_init 85 = .ok (.putfield 62, 3) := by decide +kernel
theorem dX9_init_88 : decode cX9_init 88 = .ok (.aload_n 0, 1) := by decide +kernel
theorem dX9_init_89 : decode cX9_init 89 = .ok (.bipush 12, 2) := by decide +kernel
theorem dX9_init_91 : decode cX9_init 91 = .ok (.anewarray 66, 3) := by decide +kernel
theorem dX9_init_94 : decode cX9_init 94 = .ok (.putfield 68, 3) := by decide +kernel
theorem dX9_init_97 : decode cX9_init 97 = .ok (.aload_n 0, 1) := by decide +kernel
theorem dX9_init_98 : decode cX9_init 98 = .ok (.iconst 0, 1) := by decide +kernel
theorem dX9_init_99 : decode cX9_init 99 = .ok (.putfield 72, 3) := by decide +kernel
theorem dX9_init_102 : decode cX9_init 102 = .ok (.aload_n 0, 1) := by decide +kernel
theorem dX9_init_103 : decode cX9_init 103 = .ok (.new 75, 3) := by decide +kernel
theorem dX9_init_106 : decode cX9_init 106 = .ok (.dup, 1) := by decide +kernel
theorem dX9_init_107 : decode cX9_init 107 = .ok (.invokespecial 77, 3) := by decide +kernel
theorem dX9_init_110 : decode cX9_init 110 = .ok (.putfield 78, 3) := by decide +kernel
theorem dX9_init_113 : decode cX9_init 113 = .ok (.aload_n 0, 1) := by decide +kernel
theorem dX9_init_114 : decode cX9_init 114 = .ok (.new 82, 3) := by decide +kernel
theorem dX9_init_117 : decode cX9_init 117 = .ok (.dup, 1) := by decide +kernel
theorem dX9_init_118 : decode cX9_init 118 = .ok (.invokespecial 84, 3) := by decide +kernel
theorem dX9_init_121 : decode cX9_init 121 = .ok (.putfield 85, 3) := by decide +kernel
theorem dX9_init_124 : decode cX9_init 124 = .ok (.iconst 0, 1) := by decide +kernel
theorem dX9_init_125 : decode cX9_init 125 = .ok (.istore_n 1, 1) := by decide +kernel
theorem dX9_init_126 : decode cX9_init 126 = .ok (.iload_n 1, 1) := by decide +kernel
theorem dX9_init_127 : decode cX9_init 127 = .ok (.aload_n 0, 1) := by decide +kernel
theorem dX9_init_128 : decode cX9_init 128 = .ok (.getfield 11, 3) := by decide +kernel
theorem dX9_init_131 : decode cX9_init 131 = .ok (.arraylength, 1) := by decide +kernel
theorem dX9_init_132 : decode cX9_init 132 = .ok (.if_icmp .ge 22, 3) := by decide +kernel
theorem dX9_init_135 : decode cX9_init 135 = .ok (.aload_n 0, 1) := by decide +kernel
theorem dX9_init_136 : decode cX9_init 136 = .ok (.getfield 11, 3) := by decide +kernel
theorem dX9_init_139 : decode cX9_init 139 = .ok (.iload_n 1, 1) := by decide +kernel
theorem dX9_init_140 : decode cX9_init 140 = .ok (.new 9, 3) := by decide +kernel
theorem dX9_init_143 : decode cX9_init 143 = .ok (.dup, 1) := by decide +kernel
theorem dX9_init_144 : decode cX9_init 144 = .ok (.invokespecial 89, 3) := by decide +kernel
theorem dX9_init_147 : decode cX9_init 147 = .ok (.aastore, 1) := by decide +kernel
theorem dX9_init_148 : decode cX9_init 148 = .ok (.iinc 1 1, 3) := by decide +kernel
theorem dX9_init_151 : decode cX9_init 151 = .ok (.goto (-25), 3) := by decide +kernel
theorem dX9_init_154 : decode cX9_init 154 = .ok (.iconst 0, 1) := by decide +kernel
theorem dX9_init_155 : decode cX9_init 155 = .ok (.istore_n 1, 1) := by decide +kernel
theorem dX9_init_156 : decode cX9_init 156 = .ok (.iload_n 1, 1) := by decide +kernel
theorem dX9_init_157 : decode cX9_init 157 = .ok (.aload_n 0, 1) := by decide +kernel
theorem dX9_init_158 : decode cX9_init 158 = .ok (.getfield 21, 3) := by decide +kernel
theorem dX9_init_161 : decode cX9_init 161 = .ok (.arraylength, 1) := by decide +kernel
theorem dX9_init_162 : decode cX9_init 162 = .ok (.if_icmp .ge 22, 3) := by decide +kernel
theorem dX9_init_165 : decode cX9_init 165 = .ok (.aload_n 0, 1) := by decide +kernel
theorem dX9_init_166 : decode cX9_init 166 = .ok (.getfield 21, 3) := by decide +kernel
theorem dX9_init_169 : decode cX9_init 169 = .ok (.iload_n 1, 1) := by decide +kernel
theorem dX9_init_170 : decode cX9_init 170 = .ok (.new 19, 3) := by decide +kernel
theorem dX9_init_173 : decode cX9_init 173 = .ok (.dup, 1) := by decide +kernel
theorem dX9_init_174 : decode cX9_init 174 = .ok (.invokespecial 90, 3) := by decide +kernel
theorem dX9_init_177 : decode cX9_init 177 = .ok (.aastore, 1) := by decide +kernel
theorem dX9_init_178 : decode cX9_init 178 = .ok (.iinc 1 1, 3) := by decide +kernel
theorem dX9_init_181 : decode cX9_init 181 = .ok (.goto (-25), 3) := by decide +kernel
theorem dX9_init_184 : decode cX9_init 184 = .ok (.iconst 0, 1) := by decide +kernel
theorem dX9_init_185 : decode cX9_init 185 = .ok (.istore_n 1, 1) := by decide +kernel
theorem dX9_init_186 : decode cX9_init 186 = .ok (.iload_n 1, 1) := by decide +kernel
theorem dX9_init_187 : decode cX9_init 187 = .ok (.aload_n 0, 1) := by decide +kernel
theorem dX9_init_188 : decode cX9_init 188 = .ok (.getfield 42, 3) := by decide +kernel
theorem dX9_init_191 : decode cX9_init 191 = .ok (.arraylength, 1) := by decide +kernel
theorem dX9_init_192 : decode cX9_init 192 = .ok (.if_icmp .ge 22, 3) := by decide +kernel
theorem dX9_init_195 : decode cX9_init 195 = .ok (.aload_n 0, 1) := by decide +kernel
theorem dX9_init_196 : decode cX9_init 196 = .ok (.getfield 42, 3) := by decide +kernel
theorem dX9_init_199 : decode cX9_init 199 = .ok (.iload_n 1, 1) := by decide +kernel
theorem dX9_init_200 : decode cX9_init 200 = .ok (.new 40, 3) := by decide +kernel
theorem dX9_init_203 : decode cX9_init 203 = .ok (.dup, 1) := by decide +kernel
theorem dX9_init_204 : decode cX9_init 204 = .ok (.invokespecial 91, 3) := by decide +kernel
theorem dX9_init_207 : decode cX9_init 207 = .ok (.aastore, 1) := by decide +kernel
theorem dX9_init_208 : decode cX9_init 208 = .ok (.iinc 1 1, 3) := by decide +kernel
theorem dX9_init_211 : decode cX9_init 211 = .ok (.goto (-25), 3) := by decide +kernel
theorem dX9_init_214 : decode cX9_init 214 = .ok (.iconst 0, 1) := by decide +kernel
theorem dX9_init_215 : decode cX9_init 215 = .ok (.istore_n 1, 1) := by decide +kernel
theorem dX9_init_216 : decode cX9_init 216 = .ok (.iload_n 1, 1) := by decide +kernel
theorem dX9_init_217 : decode cX9_init 217 = .ok (.aload_n 0, 1) := by decide +kernel
theorem dX9_init_218 : decode cX9_init 218 = .ok (.getfield 68, 3) := by decide +kernel
theorem dX9_init_221 : decode cX9_init 221 = .ok (.arraylength, 1) := by decide +kernel
theorem dX9_init_222 : decode cX9_init 222 = .ok (.if_icmp .ge 22, 3) := by decide +kernel
theorem dX9_init_225 : decode cX9_init 225 = .ok (.aload_n 0, 1) := by decide +kernel
theorem dX9_init_226 : decode cX9_init 226 = .ok (.getfield 68, 3) := by decide +kernel
theorem dX9_init_229 : decode cX9_init 229 = .ok (.iload_n 1, 1) := by decide +kernel
theorem dX9_init_230 : decode cX9_init 230 = .ok (.new 66, 3) := by decide +kernel
theorem dX9_init_233 : decode cX9_init 233 = .ok (.dup, 1) := by decide +kernel
theorem dX9_init_234 : decode cX9_init 234 = .ok (.invokespecial 92, 3) := by decide +kernel
theorem dX9_init_237 : decode cX9_init 237 = .ok (.aastore, 1) := by decide +kernel
theorem dX9_init_238 : decode cX9_init 238 = .ok (.iinc 1 1, 3) := by decide +kernel
theorem dX9_init_241 : decode cX9_init 241 = .ok (.goto (-25), 3) := by decide +kernel
theorem dX9_init_244 : decode cX9_init 244 = .ok (.return_, 1) := by decide +kernel
set_option maxRecDepth 20000 in
theorem ggX9_kind_X9_isIn : GoodIn wsX9_kind wsX9_isIn := goodIn_r _ [9] (by decide +kernel) (by decide +kernel)
set_option maxRecDepth 20000 in
theorem gX9_kind_X9_isIn : GoodIn wsX9_kind (va_wsS RX9 93 yX9_isIn wsX9_isIn) := goodIn_app (goodIn_of _ (by decide +kernel)) ggX9_kind_X9_isIn
theorem dX9_kind_0 : decode cX9_kind 0 = .ok (.iload_n 1, 1) := by decide +kernel
theorem dX9_kind_1 : decode cX9_kind 1 = .ok (.iconst 0, 1) := by decide +kernel
theorem dX9_kind_2 : decode cX9_kind 2 = .ok (.sipush 2000, 3) := by decide +kernel
theorem dX9_kind_5 : decode cX9_kind 5 = .ok (.invokestatic 93, 3) := by decide +kernel
theorem dX9_kind_8 : decode cX9_kind 8 = .ok (.ifCond .eq 27, 3) := by decide +kernel
theorem dX9_kind_11 : decode cX9_kind 11 = .ok (.iload_n 2, 1) := by decide +kernel
theorem dX9_kind_12 : decode cX9_kind 12 = .ok (.bipush 100, 2) := by decide +kernel
theorem dX9_kind_14 : decode cX9_kind 14 = .ok (.sipush 2000, 3) := by decide +kernel
theorem dX9_kind_17 : decode cX9_kind 17 = .ok (.invokestatic 93, 3) := by decide +kernel
theorem dX9_kind_20 : decode cX9_kind 20 = .ok (.ifCond .eq 15, 3) := by decide +kernel
theorem dX9_kind_23 : decode cX9_kind 23 = .ok (.iload_n 3, 1) := by decide +kernel
theorem dX9_kind_24 : decode cX9_kind 24 = .ok (.bipush 50, 2) := by decide +kernel
theorem dX9_kind_26 : decode cX9_kind 26 = .ok (.sipush 150, 3) := by decide +kernel
theorem dX9_kind_29 : decode cX9_kind 29 = .ok (.invokestatic 93, 3) := by decide +kernel
theorem dX9_kind_32 : decode cX9_kind 32 = .ok (.ifCond .ne 5, 3) := by decide +kernel
theorem dX9_kind_35 : decode cX9_kind 35 = .ok (.iconst (-1), 1) := by decide +kernel
theorem dX9_kind_36 : decode cX9_kind 36 = .ok (.ireturn, 1) := by decide +kernel
theorem dX9_kind_37 : decode cX9_kind 37 = .ok (.aload_n 0, 1) := by decide +kernel
theorem dX9_kind_38 : decode cX9_kind 38 = .ok (.getfield 15, 3) := by decide +kernel
theorem dX9_kind_41 : decode cX9_kind 41 = .ok (.bipush 10, 2) := by decide +kernel
theorem dX9_kind_43 : decode cX9_kind 43 = .ok (.if_icmp .lt 6, 3) := by decide +kernel
theorem dX9_kind_46 : decode cX9_kind 46 = .ok (.bipush (-3), 2) := by decide +kernel
theorem dX9_kind_48 : decode cX9_kind 48 = .ok (.ireturn, 1) := by decide +kernel
theorem dX9_kind_49 : decode cX9_kind 49 = .ok (.aload_n 0, 1) := by decide +kernel
theorem dX9_kind_50 : decode cX9_kind 50 = .ok (.getfield 11, 3) := by decide +kernel
theorem dX9_kind_53 : decode cX9_kind 53 = .ok (.aload_n 0, 1) := by decide +kernel
theorem dX9_kind_54 : decode cX9_kind 54 = .ok (.getfield 15, 3) := by decide +kernel
theorem dX9_kind_57 : decode cX9_kind 57 = .ok (.aaload, 1) := by decide +kernel
theorem dX9_kind_58 : decode cX9_kind 58 = .ok (.astore 4, 2) := by decide +kernel
theorem dX9_kind_60 : decode cX9_kind 60 = .ok (.aload 4, 2) := by decide +kernel
theorem dX9_kind_62 : decode cX9_kind 62 = .ok (.iload_n 1, 1) := by decide +kernel
theorem dX9_kind_63 : decode cX9_kind 63 = .ok (.putfield 97, 3) := by decide +kernel
theorem dX9_kind_66 : decode cX9_kind 66 = .ok (.aload 4, 2) := by decide +kernel
theorem dX9_kind_68 : decode cX9_kind 68 = .ok (.iload_n 2, 1) := by decide +kernel
theorem dX9_kind_69 : decode cX9_kind 69 = .ok (.putfield 100, 3) := by decide +kernel
theorem dX9_kind_72 : decode cX9_kind 72 = .ok (.aload 4, 2) := by decide +kernel
theorem dX9_kind_74 : decode cX9_kind 74 = .ok (.iload_n 3, 1) := by decide +kernel
theorem dX9_kind_75 : decode cX9_kind 75 = .ok (.putfield 103, 3) := by decide +kernel
theorem dX9_kind_78 : decode cX9_kind 78 = .ok (.aload_n 0, 1) := by decide +kernel
theorem dX9_kind_79 : decode cX9_kind 79 = .ok (.dup, 1) := by decide +kernel
theorem dX9_kind_80 : decode cX9_kind 80 = .ok (.getfield 15, 3) := by decide +kernel
theorem dX9_kind_83 : decode cX9_kind 83 = .ok (.iconst 1, 1) := by decide +kernel
theorem dX9_kind_84 : decode cX9_kind 84 = .ok (.iadd, 1) := by decide +kernel
theorem dX9_kind_85 : decode cX9_kind 85 = .ok (.putfield 15, 3) := by decide +kernel
theorem dX9_kind_88 : decode cX9_kind 88 = .ok (.aload_n 0, 1) := by decide +kernel
theorem dX9_kind_89 : decode cX9_kind 89 = .ok (.getfield 15, 3) := by decide +kernel
theorem dX9_kind_92 : decode cX9_kind 92 = .ok (.iconst 1, 1) := by decide +kernel
theorem dX9_kind_93 : decode cX9_kind 93 = .ok (.isub, 1) := by decide +kernel
theorem dX9_kind_94 : decode cX9_kind 94 = .ok (.ireturn, 1) := by decide +kernel
set_option maxRecDepth 20000 in
theorem ggX9_recipe_X9_isIn : GoodIn wsX9_recipe wsX9_isIn := goodIn_r _ [7] (by decide +kernel) (by decide +kernel)
set_option maxRecDepth 20000 in
theorem gX9_recipe_X9_isIn : GoodIn wsX9_recipe (va_wsS RX9 93 yX9_isIn wsX9_isIn) := goodIn_app (goodIn_of _ (by decide +kernel)) ggX9_recipe_X9_isIn
theorem dX9_recipe_0 : decode cX9_recipe 0 = .ok (.iload_n 1, 1) := by decide +kernel
theorem dX9_recipe_1 : decode cX9_recipe 1 = .ok (.iconst 0, 1) := by decide +kernel
theorem dX9_recipe_2 : decode cX9_recipe 2 = .ok (.sipush 10000, 3) := by decide +kernel
theorem dX9_recipe_5 : decode cX9_recipe 5 = .ok (.invokestatic 93, 3) := by decide +kernel
theorem dX9_recipe_8 : decode cX9_recipe 8 = .ok (.ifCond .ne 5, 3) := by decide +kernel
theorem dX9_recipe_11 : decode cX9_recipe 11 = .ok (.iconst (-1), 1) := by decide +kernel
theorem dX9_recipe_12 : decode cX9_recipe 12 = .ok (.ireturn, 1) := by decide +kernel
theorem dX9_recipe_13 : decode cX9_recipe 13 = .ok (.aload_n 0, 1) := by decide +kernel
theorem dX9_recipe_14 : decode cX9_recipe 14 = .ok (.getfield 25, 3) := by decide +kernel
theorem dX9_recipe_17 : decode cX9_recipe 17 = .ok (.bipush 12, 2) := by decide +kernel
theorem dX9_recipe_19 : decode cX9_recipe 19 = .ok (.if_icmp .lt 6, 3) := by decide +kernel
theorem dX9_recipe_22 : decode cX9_recipe 22 = .ok (.bipush (-3), 2) := by decide +kernel
theorem dX9_recipe_24 : decode cX9_recipe 24 = .ok (.ireturn, 1) := by decide +kernel
theorem dX9_recipe_25 : decode cX9_recipe 25 = .ok (.aload_n 0, 1) := by decide +kernel
theorem dX9_recipe_26 : decode cX9_recipe 26 = .ok (.getfield 21, 3) := by decide +kernel
theorem dX9_recipe_29 : decode cX9_recipe 29 = .ok (.aload_n 0, 1) := by decide +kernel
theorem dX9_recipe_30 : decode cX9_recipe 30 = .ok (.getfield 25, 3) := by decide +kernel
theorem dX9_recipe_33 : decode cX9_recipe 33 = .ok (.aaload, 1) := by decide +kernel
theorem dX9_recipe_34 : decode cX9_recipe 34 = .ok (.iload_n 1, 1) := by decide +kernel
theorem dX9_recipe_35 : decode cX9_recipe 35 = .ok (.putfield 106, 3) := by decide +kernel
