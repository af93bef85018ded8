theorem dX6_init_0 : decode cX6_init 0 = .ok (.aload_n 0, 1) := by decide +kernel
theorem dX6_init_1 : decode cX6_init 1 = .ok (.invokespecial 1, 3) := by decide +kernel
theorem dX6_init_4 : decode cX6_init 4 = .ok (.aload_n 0, 1) := by decide +kernel
theorem dX6_init_5 : decode cX6_init 5 = .ok (.new 7, 3) := by decide +kernel
theorem dX6_init_8 : decode cX6_init 8 = .ok (.dup, 1) := by decide +kernel
theorem dX6_init_9 : decode cX6_init 9 = .ok (.invokespecial 9, 3) := by decide +kernel
theorem dX6_init_12 : decode cX6_init 12 = .ok (.putfield 10, 3) := by decide +kernel
theorem dX6_init_15 : decode cX6_init 15 = .ok (.aload_n 0, 1) := by decide +kernel
theorem dX6_init_16 : decode cX6_init 16 = .ok (.new 7, 3) := by decide +kernel
theorem dX6_init_19 : decode cX6_init 19 = .ok (.dup, 1) := by decide +kernel
theorem dX6_init_20 : decode cX6_init 20 = .ok (.invokespecial 9, 3) := by decide +kernel
theorem dX6_init_23 : decode cX6_init 23 = .ok (.putfield 16, 3) := by decide +kernel
theorem dX6_init_26 : decode cX6_init 26 = .ok (.aload_n 0, 1) := by decide +kernel
theorem dX6_init_27 : decode cX6_init 27 = .ok (.new 19, 3) := by decide +kernel
theorem dX6_init_30 : decode cX6_init 30 = .ok (.dup, 1) := by decide +kernel
theorem dX6_init_31 : decode cX6_init 31 = .ok (.invokespecial 21, 3) := by decide +kernel
theorem dX6_init_34 : decode cX6_init 34 = .ok (.putfield 22, 3) := by decide +kernel
theorem dX6_init_37 : decode cX6_init 37 = .ok (.aload_n 0, 1) := by decide +kernel
theorem dX6_init_38 : decode cX6_init 38 = .ok (.new 26, 3) := by decide +kernel
theorem dX6_init_41 : decode cX6_init 41 = .ok (.dup, 1) := by decide +kernel
theorem dX6_init_42 : decode cX6_init 42 = .ok (.invokespecial 28, 3) := by decide +kernel
theorem dX6_init_45 : decode cX6_init 45 = .ok (.putfield 29, 3) := by decide +kernel
theorem dX6_init_48 : decode cX6_init 48 = .ok (.aload_n 0, 1) := by decide +kernel
theorem dX6_init_49 : decode cX6_init 49 = .ok (.new 33, 3) := by decide +kernel
theorem dX6_init_52 : decode cX6_init 52 = .ok (.dup, 1) := by decide +kernel
theorem dX6_init_53 : decode cX6_init 53 = .ok (.invokespecial 35, 3) := by decide +kernel
theorem dX6_init_56 : decode cX6_init 56 = .ok (.putfield 36, 3) := by decide +kernel
theorem dX6_init_59 : decode cX6_init 59 = .ok (.aload_n 0, 1) := by decide +kernel
theorem dX6_init_60 : decode cX6_init 60 = .ok (.iconst 4, 1) := by decide +kernel
theorem dX6_init_61 : decode cX6_init 61 = .ok (.anewarray 40, 3) := by decide +kernel
theorem dX6_init_64 : decode cX6_init 64 = .ok (.putfield 42, 3) := by decide +kernel
theorem dX6_init_67 : decode cX6_init 67 = .ok (.aload_n 0, 1) := by decide +kernel
theorem dX6_init_68 : decode cX6_init 68 = .ok (.iconst 0, 1) := by decide +kernel
theorem dX6_init_69 : decode cX6_init 69 = .ok (.putfield 46, 3) := by decide +kernel
theorem dX6_init_72 : decode cX6_init 72 = .ok (.iconst 0, 1) := by decide +kernel
theorem dX6_init_73 : decode cX6_init 73 = .ok (.istore_n 1, 1) := by decide +kernel
theorem dX6_init_74 : decode cX6_init 74 = .ok (.iload_n 1, 1) := by decide +kernel
theorem dX6_init_75 : decode cX6_init 75 = .ok (.iconst 4, 1) := by decide +kernel
theorem dX6_init_76 : decode cX6_init 76 = .ok (.if_icmp .ge 22, 3) := by decide +kernel
theorem dX6_init_79 : decode cX6_init 79 = .ok (.aload_n 0, 1) := by decide +kernel
theorem dX6_init_80 : decode cX6_init 80 = .ok (.getfield 42, 3) := by decide +kernel
theorem dX6_init_83 : decode cX6_init 83 = .ok (.iload_n 1, 1) := by decide +kernel
theorem dX6_init_84 : decode cX6_init 84 = .ok (.new 40, 3) := by decide +kernel
theorem dX6_init_87 : decode cX6_init 87 = .ok (.dup, 1) := by decide +kernel
theorem dX6_init_88 : decode cX6_init 88 = .ok (.invokespecial 50, 3) := by decide +kernel
theorem dX6_init_91 : decode cX6_init 91 = .ok (.aastore, 1) := by decide +kernel
theorem dX6_init_92 : decode cX6_init 92 = .ok (.iinc 1 1, 3) := by decide +kernel
theorem dX6_init_95 : decode cX6_init 95 = .ok (.goto (-21), 3) := by decide +kernel
theorem dX6_init_98 : decode cX6_init 98 = .ok (.return_, 1) := by decide +kernel
set_option maxRecDepth 20000 in
theorem ggX6_walls_X6_outside : GoodIn wsX6_walls wsX6_outside := goodIn_r _ [6] (by decide +kernel) (by decide +kernel)
set_option maxRecDepth 20000 in
theorem gX6_walls_X6_outside : GoodIn wsX6_walls (va_wsS RX6 51 yX6_outside wsX6_outside) := goodIn_app (goodIn_of _ (by decide +kernel)) ggX6_walls_X6_outside
theorem dX6_walls_0 : decode cX6_walls 0 = .ok (.iload_n 1, 1) := by decide +kernel
theorem dX6_walls_1 : decode cX6_walls 1 = .ok (.iconst 1, 1) := by decide +kernel
theorem dX6_walls_2 : decode cX6_walls 2 = .ok (.sipush 200, 3) := by decide +kernel
theorem dX6_walls_5 : decode cX6_walls 5 = .ok (.invokestatic 51, 3) := by decide +kernel
theorem dX6_walls_8 : decode cX6_walls 8 = .ok (.ifCond .eq 5, 3) := by decide +kernel
theorem dX6_walls_11 : decode cX6_walls 11 = .ok (.iconst (-1), 1) := by decide +kernel
theorem dX6_walls_12 : decode cX6_walls 12 = .ok (.ireturn, 1) := by decide +kernel
theorem dX6_walls_13 : decode cX6_walls 13 = .ok (.aload_n 0, 1) := by decide +kernel
theorem dX6_walls_14 : decode cX6_walls 14 = .ok (.getfield 10, 3) := by decide +kernel
theorem dX6_walls_17 : decode cX6_walls 17 = .ok (.getfield 55, 3) := by decide +kernel
theorem dX6_walls_20 : decode cX6_walls 20 = .ok (.istore_n 2, 1) := by decide +kernel
theorem dX6_walls_21 : decode cX6_walls 21 = .ok (.aload_n 0, 1) := by decide +kernel
theorem dX6_walls_22 : decode cX6_walls 22 = .ok (.getfield 10, 3) := by decide +kernel
theorem dX6_walls_25 : decode cX6_walls 25 = .ok (.iload_n 1, 1) := by decide +kernel
theorem dX6_walls_26 : decode cX6_walls 26 = .ok (.putfield 55, 3) := by decide +kernel
theorem dX6_walls_29 : decode cX6_walls 29 = .ok (.iload_n 2, 1) := by decide +kernel
theorem dX6_walls_30 : decode cX6_walls 30 = .ok (.ireturn, 1) := by decide +kernel
set_option maxRecDepth 20000 in
theorem ggX6_rain_X6_outside : GoodIn wsX6_rain wsX6_outside := goodIn_r _ [7] (by decide +kernel) (by decide +kernel)
set_option maxRecDepth 20000 in
theorem gX6_rain_X6_outside : GoodIn wsX6_rain (va_wsS RX6 51 yX6_outside wsX6_outside) := goodIn_app (goodIn_of _ (by decide +kernel)) ggX6_rain_X6_outside
set_option maxRecDepth 20000 in
theorem ggX6_rain_X5_append : GoodIn wsX6_rain wsX5_append := goodIn_r _ [12, 13, 14, 28, 29] (by decide +kernel) (by decide +kernel)
set_option maxRecDepth 20000 in
theorem gX6_rain_X5_append : GoodIn wsX6_rain (wsV RX6 68 RX5 yX5_append wsX5_append) := goodIn_app (goodIn_of _ (by decide +kernel)) ggX6_rain_X5_append
theorem dX6_rain_0 : decode cX6_rain 0 = .ok (.iload_n 1, 1) := by decide +kernel
theorem dX6_rain_1 : decode cX6_rain 1 = .ok (.iconst 0, 1) := by decide +kernel
theorem dX6_rain_2 : decode cX6_rain 2 = .ok (.bipush 40, 2) := by decide +kernel
theorem dX6_rain_4 : decode cX6_rain 4 = .ok (.invokestatic 51, 3) := by decide +kernel
theorem dX6_rain_7 : decode cX6_rain 7 = .ok (.ifCond .eq 5, 3) := by decide +kernel
theorem dX6_rain_10 : decode cX6_rain 10 = .ok (.iconst (-1), 1) := by decide +kernel
theorem dX6_rain_11 : decode cX6_rain 11 = .ok (.ireturn, 1) := by decide +kernel
theorem dX6_rain_12 : decode cX6_rain 12 = .ok (.aload_n 0, 1) := by decide +kernel
theorem dX6_rain_13 : decode cX6_rain 13 = .ok (.getfield 10, 3) := by decide +kernel
theorem dX6_rain_16 : decode cX6_rain 16 = .ok (.getfield 59, 3) := by decide +kernel
theorem dX6_rain_19 : decode cX6_rain 19 = .ok (.getfield 63, 3) := by decide +kernel
theorem dX6_rain_22 : decode cX6_rain 22 = .ok (.bipush 8, 2) := by decide +kernel
theorem dX6_rain_24 : decode cX6_rain 24 = .ok (.if_icmp .lt 6, 3) := by decide +kernel
theorem dX6_rain_27 : decode cX6_rain 27 = .ok (.bipush (-3), 2) := by decide +kernel
theorem dX6_rain_29 : decode cX6_rain 29 = .ok (.ireturn, 1) := by decide +kernel
theorem dX6_rain_30 : decode cX6_rain 30 = .ok (.aload_n 0, 1) := by decide +kernel
theorem dX6_rain_31 : decode cX6_rain 31 = .ok (.getfield 10, 3) := by decide +kernel
theorem dX6_rain_34 : decode cX6_rain 34 = .ok (.getfield 59, 3) := by decide +kernel
theorem dX6_rain_37 : decode cX6_rain 37 = .ok (.iload_n 1, 1) := by decide +kernel
theorem dX6_rain_38 : decode cX6_rain 38 = .ok (.invokevirtual 68, 3) := by decide +kernel
theorem dX6_rain_41 : decode cX6_rain 41 = .ok (.aload_n 0, 1) := by decide +kernel
theorem dX6_rain_42 : decode cX6_rain 42 = .ok (.getfield 10, 3) := by decide +kernel
theorem dX6_rain_45 : decode cX6_rain 45 = .ok (.getfield 59, 3) := by decide +kernel
theorem dX6_rain_48 : decode cX6_rain 48 = .ok (.getfield 63, 3) := by decide +kernel
theorem dX6_rain_51 : decode cX6_rain 51 = .ok (.ireturn, 1) := by decide +kernel
theorem dX6_dry_0 : decode cX6_dry 0 = .ok (.aload_n 0, 1) := by decide +kernel
theorem dX6_dry_1 : decode cX6_dry 1 = .ok (.getfield 10, 3) := by decide +kernel
theorem dX6_dry_4 : decode cX6_dry 4 = .ok (.getfield 59, 3) := by decide +kernel
theorem dX6_dry_7 : decode cX6_dry 7 = .ok (.getfield 63, 3) := by decide +kernel
theorem dX6_dry_10 : decode cX6_dry 10 = .ok (.istore_n 1, 1) := by decide +kernel
theorem dX6_dry_11 : decode cX6_dry 11 = .ok (.aload_n 0, 1) := by decide +kernel
theorem dX6_dry_12 : decode cX6_dry 12 = .ok (.getfield 10, 3) := by decide +kernel
theorem dX6_dry_15 : decode cX6_dry 15 = .ok (.getfield 59, 3) := by decide +kernel
theorem dX6_dry_18 : decode cX6_dry 18 = .ok (.iconst 0, 1) := by decide +kernel
theorem dX6_dry_19 : decode cX6_dry 19 = .ok (.putfield 63, 3) := by decide +kernel
theorem dX6_dry_22 : decode cX6_dry 22 = .ok (.iload_n 1, 1) := by decide +kernel
theorem dX6_dry_23 : decode cX6_dry 23 = .ok (.ireturn, 1) := by decide +kernel
set_option maxRecDepth 20000 in
theorem ggX6_of_X0_has : GoodIn wsX6_of wsX0_has := goodIn_r _ [11, 12, 43, 44, 45, 46, 47, 48, 49, 50] (by decide +kernel) (by decide +kernel)
set_option maxRecDepth 20000 in
theorem gX6_of_X0_has : GoodIn wsX6_of (wsV RX6 75 RX0 yX0_has wsX0_has) := goodIn_app (goodIn_of _ (by decide +kernel)) ggX6_of_X0_has
set_option maxRecDepth 20000 in
theorem ggX6_of_X0_mostTaken : GoodIn wsX6_of wsX0_mostTaken := goodIn_r _ [16, 17, 18, 19, 20, 21, 22, 10, 23, 24, 43, 44, 45, 46, 47, 48, 49, 50] (by decide +kernel) (by decide +kernel)
set_option maxRecDepth 20000 in
theorem gX6_of_X0_mostTaken : GoodIn wsX6_of (wsV RX6 92 RX0 yX0_mostTaken wsX0_mostTaken) := goodIn_app (goodIn_of _ (by decide +kernel)) ggX6_of_X0_mostTaken
set_option maxRecDepth 20000 in
theorem ggX6_of_X0_mostTakenAbove : GoodIn wsX6_of wsX0_mostTakenAbove := goodIn_r _ [28, 12, 29, 14, 15, 10, 16, 17, 18, 19, 20, 21, 22, 23, 24, 43, 44, 45, 46, 47, 48, 49, 50] (by decide +kernel) (by decide +kernel)
set_option maxRecDepth 20000 in
theorem gX6_of_X0_mostTakenAbove : GoodIn wsX6_of (wsV RX6 96 RX0 yX0_mostTakenAbove wsX0_mostTakenAbove) := goodIn_app (goodIn_of _ (by decide +kernel)) ggX6_of_X0_mostTakenAbove
theorem dX6_of_0 : decode cX6_of 0 = .ok (.aload_n 0, 1) := by decide +kernel
theorem dX6_of_1 : decode cX6_of 1 = .ok (.getfield 10, 3) := by decide +kernel
theorem dX6_of_4 : decode cX6_of 4 = .ok (.getfield 72, 3) := by decide +kernel
theorem dX6_of_7 : decode cX6_of 7 = .ok (.astore_n 3, 1) := by decide +kernel
theorem dX6_of_8 : decode cX6_of 8 = .ok (.aload_n 3, 1) := by decide +kernel
theorem dX6_of_9 : decode cX6_of 9 = .ok (.iload_n 1, 1) := by decide +kernel
theorem dX6_of_10 : decode cX6_of 10 = .ok (.invokevirtual 75, 3) := by decide +kernel
theorem dX6_of_13 : decode cX6_of 13 = .ok (.ifCond .ne 5, 3) := by decide +kernel
theorem dX6_of_16 : decode cX6_of 16 = .ok (.iconst (-1), 1) := by decide +kernel
theorem dX6_of_17 : decode cX6_of 17 = .ok (.ireturn, 1) := by decide +kernel
theorem dX6_of_18 : decode cX6_of 18 = .ok (.iload_n 2, 1) := by decide +kernel
theorem dX6_of_19 : decode cX6_of 19 = .ok (.tableswitch 77 0 5 #[37, 44, 51, 58, 65, 71], 37) := by decide +kernel
theorem dX6_of_56 : decode cX6_of 56 = .ok (.aload_n 3, 1) := by decide +kernel
theorem dX6_of_57 : decode cX6_of 57 = .ok (.getfield 79, 3) := by decide +kernel
theorem dX6_of_60 : decode cX6_of 60 = .ok (.iload_n 1, 1) := by decide +kernel
theorem dX6_of_61 : decode cX6_of 61 = .ok (.iaload, 1) := by decide +kernel
theorem dX6_of_62 : decode cX6_of 62 = .ok (.ireturn, 1) := by decide +kernel
theorem dX6_of_63 : decode cX6_of 63 = .ok (.aload_n 3, 1) := by decide +kernel
theorem dX6_of_64 : decode cX6_of 64 = .ok (.getfield 83, 3) := by decide +kernel
theorem dX6_of_67 : decode cX6_of 67 = .ok (.iload_n 1, 1) := by decide +kernel
theorem dX6_of_68 : decode cX6_of 68 = .ok (.iaload, 1) := by decide +kernel
theorem dX6_of_69 : decode cX6_of 69 = .ok (.ireturn, 1) := by decide +kernel
theorem dX6_of_70 : decode cX6_of 70 = .ok (.aload_n 3, 1) := by decide +kernel
theorem dX6_of_71 : decode cX6_of 71 = .ok (.getfield 86, 3) := by decide +kernel
theorem dX6_of_74 : decode cX6_of 74 = .ok (.iload_n 1, 1) := by decide +kernel
theorem dX6_of_75 : decode cX6_of 75 = .ok (.iaload, 1) := by decide +kernel
theorem dX6_of_76 : decode cX6_of 76 = .ok (.ireturn, 1) := by decide +kernel
theorem dX6_of_77 : decode cX6_of 77 = .ok (.aload_n 3, 1) := by decide +kernel
theorem dX6_of_78 : decode cX6_of 78 = .ok (.getfield 89, 3) := by decide +kernel
theorem dX6_of_81 : decode cX6_of 81 = .ok (.iload_n 1, 1) := by decide +kernel
theorem dX6_of_82 : decode cX6_of 82 = .ok (.iaload, 1) := by decide +kernel
theorem dX6_of_83 : decode cX6_of 83 = .ok (.ireturn, 1) := by decide +kernel
theorem dX6_of_84 : decode cX6_of 84 = .ok (.aload_n 3, 1) := by decide +kernel
theorem dX6_of_85 : decode cX6_of 85 = .ok (.iload_n 1, 1) := by decide +kernel
theorem dX6_of_86 : decode cX6_of 86 = .ok (.invokevirtual 92, 3) := by decide +kernel
theorem dX6_of_89 : decode cX6_of 89 = .ok (.ireturn, 1) := by decide +kernel
theorem dX6_of_90 : decode cX6_of 90 = .ok (.aload_n 3, 1) := by decide +kernel
theorem dX6_of_91 : decode cX6_of 91 = .ok (.iload_n 1, 1) := by decide +kernel
theorem dX6_of_92 : decode cX6_of 92 = .ok (.invokevirtual 96, 3) := by decide +kernel
theorem dX6_of_95 : decode cX6_of 95 = .ok (.ireturn, 1) := by decide +kernel
theorem dX6_of_96 : decode cX6_of 96 = .ok (.iconst (-1), 1) := by decide +kernel
theorem dX6_of_97 : decode cX6_of 97 = .ok (.ireturn, 1) := by decide +kernel
set_option maxRecDepth 20000 in
theorem ggX6_rains_X6_outside : GoodIn wsX6_rains wsX6_outside := goodIn_r _ [8] (by decide +kernel) (by decide +kernel)
set_option maxRecDepth 20000 in
theorem gX6_rains_X6_outside : GoodIn wsX6_rains (va_wsS RX6 51 yX6_outside wsX6_outside) := goodIn_app (goodIn_of _ (by decide +kernel)) ggX6_rains_X6_outside
set_option maxRecDepth 20000 in
theorem ggX6_rains_X5_inYear : GoodIn wsX6_rains wsX5_inYear := goodIn_r _ [13, 14, 15, 37, 38] (by decide +kernel) (by decide +kernel)
set_option maxRecDepth 20000 in
theorem gX6_rains_X5_inYear : GoodIn wsX6_rains (wsV RX6 102 RX5 yX5_inYear wsX5_inYear) := goodIn_app (goodIn_of _ (by decide +kernel)) ggX6_rains_X5_inYear
theorem dX6_rains_0 : decode cX6_rains 0 = .ok (.iload_n 1, 1) := by decide +kernel
theorem dX6_rains_1 : decode cX6_rains 1 = .ok (.iconst 0, 1) := by decide +kernel
theorem dX6_rains_2 : decode cX6_rains 2 = .ok (.bipush 40, 2) := by decide +kernel
theorem dX6_rains_4 : decode cX6_rains 4 = .ok (.invokestatic 51, 3) := by decide +kernel
theorem dX6_rains_7 : decode cX6_rains 7 = .ok (.ifCond .eq 5, 3) := by decide +kernel
theorem dX6_rains_10 : decode cX6_rains 10 = .ok (.iconst (-1), 1) := by decide +kernel
theorem dX6_rains_11 : decode cX6_rains 11 = .ok (.ireturn, 1) := by decide +kernel
theorem dX6_rains_12 : decode cX6_rains 12 = .ok (.aload_n 0, 1) := by decide +kernel
theorem dX6_rains_13 : decode cX6_rains 13 = .ok (.getfield 10, 3) := by decide +kernel
theorem dX6_rains_16 : decode cX6_rains 16 = .ok (.getfield 59, 3) := by decide +kernel
theorem dX6_rains_19 : decode cX6_rains 19 = .ok (.aload_n 0, 1) := by decide +kernel
theorem dX6_rains_20 : decode cX6_rains 20 = .ok (.getfield 10, 3) := by decide +kernel
theorem dX6_rains_23 : decode cX6_rains 23 = .ok (.getfield 72, 3) := by decide +kernel
theorem dX6_rains_26 : decode cX6_rains 26 = .ok (.getfield 99, 3) := by decide +kernel
theorem dX6_rains_29 : decode cX6_rains 29 = .ok (.iload_n 1, 1) := by decide +kernel
theorem dX6_rains_30 : decode cX6_rains 30 = .ok (.iadd, 1) := by decide +kernel
theorem dX6_rains_31 : decode cX6_rains 31 = .ok (.invokevirtual 102, 3) := by decide +kernel
theorem dX6_rains_34 : decode cX6_rains 34 = .ok (.ireturn, 1) := by decide +kernel
set_option maxRecDepth 20000 in
theorem ggX6_type_X6_outside : GoodIn wsX6_type wsX6_outside := goodIn_r _ [6] (by decide +kernel) (by decide +kernel)
set_option maxRecDepth 20000 in
theorem gX6_type_X6_outside : GoodIn wsX6_type (va_wsS RX6 51 yX6_outside wsX6_outside) := goodIn_app (goodIn_of _ (by decide +kernel)) ggX6_type_X6_outside
set_option maxRecDepth 20000 in
theorem ggX6_type_X4_append : GoodIn wsX6_type wsX4_append := goodIn_r _ [11, 12, 13, 21, 22, 23, 24, 25, 26, 27] (by decide +kernel) (by decide +kernel)
set_option maxRecDepth 20000 in
theorem gX6_type_X4_append : GoodIn wsX6_type (wsV RX6 106 RX4 yX4_append wsX4_append) := goodIn_app (goodIn_of _ (by decide +kernel)) ggX6_type_X4_append
theorem dX6_type_0 : decode cX6_type 0 = .ok (.iload_n 1, 1) := by decide +kernel
theorem dX6_type_1 : decode cX6_type 1 = .ok (.bipush 32, 2) := by decide +kernel
theorem dX6_type_3 : decode cX6_type 3 = .ok (.bipush 126, 2) := by decide +kernel
theorem dX6_type_5 : decode cX6_type 5 = .ok (.invokestatic 51, 3) := by decide +kernel
theorem dX6_type_8 : decode cX6_type 8 = .ok (.ifCond .eq 5, 3) := by decide +kernel
theorem dX6_type_11 : decode cX6_type 11 = .ok (.iconst (-1), 1) := by decide +kernel
theorem dX6_type_12 : decode cX6_type 12 = .ok (.ireturn, 1) := by decide +kernel
theorem dX6_type_13 : decode cX6_type 13 = .ok (.aload_n 0, 1) := by decide +kernel
theorem dX6_type_14 : decode cX6_type 14 = .ok (.getfield 36, 3) := by decide +kernel
theorem dX6_type_17 : decode cX6_type 17 = .ok (.getfield 105, 3) := by decide +kernel
theorem dX6_type_20 : decode cX6_type 20 = .ok (.bipush 90, 2) := by decide +kernel
theorem dX6_type_22 : decode cX6_type 22 = .ok (.if_icmp .lt 6, 3) := by decide +kernel
theorem dX6_type_25 : decode cX6_type 25 = .ok (.bipush (-3), 2) := by decide +kernel
theorem dX6_type_27 : decode cX6_type 27 = .ok (.ireturn, 1) := by decide +kernel
theorem dX6_type_28 : decode cX6_type 28 = .ok (.aload_n 0, 1) := by decide +kernel
theorem dX6_type_29 : decode cX6_type 29 = .ok (.getfield 36, 3) := by decide +kernel
theorem dX6_type_32 : decode cX6_type 32 = .ok (.iload_n 1, 1) := by decide +kernel
theorem dX6_type_33 : decode cX6_type 33 = .ok (.i2c, 1) := by decide +kernel
theorem dX6_type_34 : decode cX6_type 34 = .ok (.invokevirtual 106, 3) := by decide +kernel
theorem dX6_type_37 : decode cX6_type 37 = .ok (.aload_n 0, 1) := by decide +kernel
theorem dX6_type_38 : decode cX6_type 38 = .ok (.getfield 36, 3) := by decide +kernel
theorem dX6_type_41 : decode cX6_type 41 = .ok (.getfield 105, 3) := by decide +kernel
theorem dX6_type_44 : decode cX6_type 44 = .ok (.ireturn, 1) := by decide +kernel
set_option maxRecDepth 20000 in
theorem ggX6_roof_X4_readRoof : GoodIn wsX6_roof wsX4_readRoof := goodIn_r _ [10, 11, 12, 13, 14, 15, 16, 17, 18, 19, 20, 21, 9, 22, 23, 24, 25, 26, 27, 28, 29, 30, 31, 32, 33, 34, 35, 36, 37, 38, 39, 40, 41, 42, 43, 44, 45, 46, 47, 48, 49, 50, 51, 52, 53, 54, 55, 56, 57, 58, 59, 60, 61, 62, 63, 64, 65, 66, 67, 68, 69, 70, 71, 72, 107, 108, 109, 110, 111, 112, 113, 128, 129, 120, 121, 122, 123, 124, 125, 126, 127] (by decide +kernel) (by decide +kernel)
set_option maxRecDepth 20000 in
theorem gX6_roof_X4_readRoof : GoodIn wsX6_roof (wsV RX6 109 RX4 yX4_readRoof wsX4_readRoof) := goodIn_app (goodIn_of _ (by decide +kernel)) ggX6_roof_X4_readRoof
set_option maxRecDepth 20000 in
theorem ggX6_roof_X1_takeOver : GoodIn wsX6_roof wsX1_takeOver := goodIn_r _ [77, 78, 79, 80, 81, 82, 83, 84, 85, 86, 87, 88, 89, 46, 90, 48, 49, 91, 92, 93, 94, 95, 96, 97, 65, 98, 67, 68, 99, 69, 70, 71, 107, 108, 109, 110, 111, 112, 113, 114, 115, 116, 117, 118, 119, 120, 121, 122, 123, 124, 125, 126, 127, 128, 129] (by decide +kernel) (by decide +kernel)
set_option maxRecDepth 20000 in
theorem gX6_roof_X1_takeOver : GoodIn wsX6_roof (wsV RX6 113 RX1 yX1_takeOver wsX1_takeOver) := goodIn_app (goodIn_of _ (by decide +kernel)) ggX6_roof_X1_takeOver
theorem dX6_roof_0 : decode cX6_roof 0 = .ok (.aload_n 0, 1) := by decide +kernel
theorem dX6_roof_1 : decode cX6_roof 1 = .ok (.getfield 36, 3) := by decide +kernel
theorem dX6_roof_4 : decode cX6_roof 4 = .ok (.invokevirtual 109, 3) := by decide +kernel
theorem dX6_roof_7 : decode cX6_roof 7 = .ok (.istore_n 1, 1) := by decide +kernel
theorem dX6_roof_8 : decode cX6_roof 8 = .ok (.aload_n 0, 1) := by decide +kernel
theorem dX6_roof_9 : decode cX6_roof 9 = .ok (.getfield 36, 3) := by decide +kernel
theorem dX6_roof_12 : decode cX6_roof 12 = .ok (.iconst 0, 1) := by decide +kernel
theorem dX6_roof_13 : decode cX6_roof 13 = .ok (.putfield 105, 3) := by decide +kernel
theorem dX6_roof_16 : decode cX6_roof 16 = .ok (.iload_n 1, 1) := by decide +kernel
theorem dX6_roof_17 : decode cX6_roof 17 = .ok (.ifCond .lt 8, 3) := by decide +kernel
theorem dX6_roof_20 : decode cX6_roof 20 = .ok (.bipush (-20), 2) := by decide +kernel
theorem dX6_roof_22 : decode cX6_roof 22 = .ok (.iload_n 1, 1) := by decide +kernel
theorem dX6_roof_23 : decode cX6_roof 23 = .ok (.isub, 1) := by decide +kernel
theorem dX6_roof_24 : decode cX6_roof 24 = .ok (.ireturn, 1) := by decide +kernel
theorem dX6_roof_25 : decode cX6_roof 25 = .ok (.aload_n 0, 1) := by decide +kernel
theorem dX6_roof_26 : decode cX6_roof 26 = .ok (.getfield 10, 3) := by decide +kernel
theorem dX6_roof_29 : decode cX6_roof 29 = .ok (.aload_n 0, 1) := by decide +kernel
theorem dX6_roof_30 : decode cX6_roof 30 = .ok (.getfield 36, 3) := by decide +kernel
theorem dX6_roof_33 : decode cX6_roof 33 = .ok (.invokevirtual 113, 3) := by decide +kernel
theorem dX6_roof_36 : decode cX6_roof 36 = .ok (.aload_n 0, 1) := by decide +kernel
theorem dX6_roof_37 : decode cX6_roof 37 = .ok (.getfield 10, 3) := by decide +kernel
theorem dX6_roof_40 : decode cX6_roof 40 = .ok (.getfield 72, 3) := by decide +kernel
theorem dX6_roof_43 : decode cX6_roof 43 = .ok (.getfield 117, 3) := by decide +kernel
theorem dX6_roof_46 : decode cX6_roof 46 = .ok (.ireturn, 1) := by decide +kernel
set_option maxRecDepth 20000 in
theorem ggX6_count_X0_heaviness : GoodIn wsX6_count wsX0_heaviness := goodIn_r _ [14, 15, 16, 17, 18, 13, 19, 20, 21, 39, 40, 41, 42, 43, 44, 45, 46] (by decide +kernel) (by decide +kernel)
set_option maxRecDepth 20000 in
theorem gX6_count_X0_heaviness : GoodIn wsX6_count (wsV RX6 121 RX0 yX0_heaviness wsX0_heaviness) := goodIn_app (goodIn_of _ (by decide +kernel)) ggX6_count_X0_heaviness
set_option maxRecDepth 20000 in
theorem ggX6_count_X0_thickness : GoodIn wsX6_count wsX0_thickness := goodIn_r _ [25, 15, 20, 39, 40, 41, 42, 43, 44, 45, 46] (by decide +kernel) (by decide +kernel)
set_option maxRecDepth 20000 in
theorem gX6_count_X0_thickness : GoodIn wsX6_count (wsV RX6 124 RX0 yX0_thickness wsX0_thickness) := goodIn_app (goodIn_of _ (by decide +kernel)) ggX6_count_X0_thickness
theorem dX6_count_0 : decode cX6_count 0 = .ok (.aload_n 0, 1) := by decide +kernel
theorem dX6_count_1 : decode cX6_count 1 = .ok (.getfield 10, 3) := by decide +kernel
theorem dX6_count_4 : decode cX6_count 4 = .ok (.getfield 72, 3) := by decide +kernel
theorem dX6_count_7 : decode cX6_count 7 = .ok (.astore_n 2, 1) := by decide +kernel
theorem dX6_count_8 : decode cX6_count 8 = .ok (.iload_n 1, 1) := by decide +kernel
theorem dX6_count_9 : decode cX6_count 9 = .ok (.tableswitch 123 0 8 #[51, 56, 64, 75, 80, 85, 90, 95, 115], 51) := by decide +kernel
theorem dX6_count_60 : decode cX6_count 60 = .ok (.aload_n 2, 1) := by decide +kernel
theorem dX6_count_61 : decode cX6_count 61 = .ok (.getfield 117, 3) := by decide +kernel
theorem dX6_count_64 : decode cX6_count 64 = .ok (.ireturn, 1) := by decide +kernel
theorem dX6_count_65 : decode cX6_count 65 = .ok (.aload_n 0, 1) := by decide +kernel
theorem dX6_count_66 : decode cX6_count 66 = .ok (.getfield 10, 3) := by decide +kernel
theorem dX6_count_69 : decode cX6_count 69 = .ok (.getfield 55, 3) := by decide +kernel
theorem dX6_count_72 : decode cX6_count 72 = .ok (.ireturn, 1) := by decide +kernel
theorem dX6_count_73 : decode cX6_count 73 = .ok (.aload_n 0, 1) := by decide +kernel
theorem dX6_count_74 : decode cX6_count 74 = .ok (.getfield 10, 3) := by decide +kernel
theorem dX6_count_77 : decode cX6_count 77 = .ok (.getfield 59, 3) := by decide +kernel
theorem dX6_count_80 : decode cX6_count 80 = .ok (.getfield 63, 3) := by decide +kernel
theorem dX6_count_83 : decode cX6_count 83 = .ok (.ireturn, 1) := by decide +kernel
theorem dX6_count_84 : decode cX6_count 84 = .ok (.aload_n 2, 1) := by decide +kernel
theorem dX6_count_85 : decode cX6_count 85 = .ok (.getfield 99, 3) := by decide +kernel
theorem dX6_count_88 : decode cX6_count 88 = .ok (.ireturn, 1) := by decide +kernel
theorem dX6_count_89 : decode cX6_count 89 = .ok (.aload_n 2, 1) := by decide +kernel
theorem dX6_count_90 : decode cX6_count 90 = .ok (.getfield 118, 3) := by decide +kernel
theorem dX6_count_93 : decode cX6_count 93 = .ok (.ireturn, 1) := by decide +kernel
theorem dX6_count_94 : decode cX6_count 94 = .ok (.aload_n 2, 1) := by decide +kernel
theorem dX6_count_95 : decode cX6_count 95 = .ok (.invokevirtual 121, 3) := by decide +kernel
theorem dX6_count_98 : decode cX6_count 98 = .ok (.ireturn, 1) := by decide +kernel
theorem dX6_count_99 : decode cX6_count 99 = .ok (.aload_n 2, 1) := by decide +kernel
theorem dX6_count_100 : decode cX6_count 100 = .ok (.invokevirtual 124, 3) := by decide +kernel
theorem dX6_count_103 : decode cX6_count 103 = .ok (.ireturn, 1) := by decide +kernel
theorem dX6_count_104 : decode cX6_count 104 = .ok (.aload_n 2, 1) := by decide +kernel
theorem dX6_count_105 : decode cX6_count 105 = .ok (.invokevirtual 121, 3) := by decide +kernel
theorem dX6_count_108 : decode cX6_count 108 = .ok (.aload_n 0, 1) := by decide +kernel
theorem dX6_count_109 : decode cX6_count 109 = .ok (.getfield 10, 3) := by decide +kernel
theorem dX6_count_112 : decode cX6_count 112 = .ok (.getfield 55, 3) := by decide +kernel
theorem dX6_count_115 : decode cX6_count 115 = .ok (.if_icmp .gt 7, 3) := by decide +kernel
theorem dX6_count_118 : decode cX6_count 118 = .ok (.iconst 1, 1) := by decide +kernel
theorem dX6_count_119 : decode cX6_count 119 = .ok (.goto 4, 3) := by decide +kernel
theorem dX6_count_122 : decode cX6_count 122 = .ok (.iconst 0, 1) := by decide +kernel
theorem dX6_count_123 : decode cX6_count 123 = .ok (.ireturn, 1) := by decide +kernel
theorem dX6_count_124 : decode cX6_count 124 = .ok (.aload_n 0, 1) := by decide +kernel
theorem dX6_count_125 : decode cX6_count 125 = .ok (.getfield 10, 3) := by decide +kernel
theorem dX6_count_128 : decode cX6_count 128 = .ok (.getfield 127, 3) := by decide +kernel
theorem dX6_count_131 : decode cX6_count 131 = .ok (.ireturn, 1) := by decide +kernel
theorem dX6_count_132 : decode cX6_count 132 = .ok (.iconst (-1), 1) := by decide +kernel
theorem dX6_count_133 : decode cX6_count 133 = .ok (.ireturn, 1) := by decide +kernel
set_option maxRecDepth 20000 in
theorem ggX6_years_X6_refuseYears : GoodIn wsX6_years wsX6_refuseYears := goodIn_r _ [5, 6, 7, 8, 9, 10, 4, 11, 90, 91, 92, 93, 94, 95, 96, 97, 98, 99, 100, 101, 102, 103, 104, 105, 106, 107, 108, 109, 110] (by decide +kernel) (by decide +kernel)
set_option maxRecDepth 20000 in
theorem gX6_years_X6_refuseYears : GoodIn wsX6_years (wsV RX6 130 RX6 yX6_refuseYears wsX6_refuseYears) := goodIn_app (goodIn_of _ (by decide +kernel)) ggX6_years_X6_refuseYears
set_option maxRecDepth 20000 in
theorem ggX6_years_X6_liveThrough : GoodIn wsX6_years wsX6_liveThrough := goodIn_r _ [15, 6, 7, 16, 8, 17, 18, 19, 20, 21, 22, 23, 24, 25, 26, 27, 28, 29, 30, 31, 32, 33, 34, 35, 36, 37, 38, 39, 40, 41, 42, 43, 44, 45, 46, 47, 48, 49, 50, 51, 52, 53, 54, 55, 56, 57, 58, 59, 60, 61, 62, 63, 64, 65, 66, 67, 68, 69, 70, 71, 72, 73, 74, 75, 76, 77, 78, 79, 80, 81, 82, 83, 84, 85, 86, 87, 88, 89, 90, 91, 92, 93, 94, 95, 96, 97, 98, 99, 100, 101, 102, 103, 104, 105, 106, 107, 108, 109, 110, 111, 112] (by decide +kernel) (by decide +kernel)
set_option maxRecDepth 20000 in
theorem gX6_years_X6_liveThrough : GoodIn wsX6_years (wsV RX6 133 RX6 yX6_liveThrough wsX6_liveThrough) := goodIn_app (goodIn_of _ (by decide +kernel)) ggX6_years_X6_liveThrough
theorem dX6_years_0 : decode cX6_years 0 = .ok (.aload_n 0, 1) := by decide +kernel
theorem dX6_years_1 : decode cX6_years 1 = .ok (.iload_n 1, 1) := by decide +kernel
theorem dX6_years_2 : decode cX6_years 2 = .ok (.invokevirtual 130, 3) := by decide +kernel
theorem dX6_years_5 : decode cX6_years 5 = .ok (.istore_n 2, 1) := by decide +kernel
theorem dX6_years_6 : decode cX6_years 6 = .ok (.iload_n 2, 1) := by decide +kernel
theorem dX6_years_7 : decode cX6_years 7 = .ok (.ifCond .ge 7, 3) := by decide +kernel
theorem dX6_years_10 : decode cX6_years 10 = .ok (.iload_n 2, 1) := by decide +kernel
theorem dX6_years_11 : decode cX6_years 11 = .ok (.goto 9, 3) := by decide +kernel
theorem dX6_years_14 : decode cX6_years 14 = .ok (.aload_n 0, 1) := by decide +kernel
theorem dX6_years_15 : decode cX6_years 15 = .ok (.iload_n 1, 1) := by decide +kernel
theorem dX6_years_16 : decode cX6_years 16 = .ok (.iconst 0, 1) := by decide +kernel
theorem dX6_years_17 : decode cX6_years 17 = .ok (.invokevirtual 133, 3) := by decide +kernel
theorem dX6_years_20 : decode cX6_years 20 = .ok (.ireturn, 1) := by decide +kernel
set_option maxRecDepth 20000 in
theorem ggX6_lay_X6_isKind : GoodIn wsX6_lay wsX6_isKind := goodIn_r _ [8, 9, 10, 7, 11] (by decide +kernel) (by decide +kernel)
set_option maxRecDepth 20000 in
theorem gX6_lay_X6_isKind : GoodIn wsX6_lay (va_wsS RX6 137 yX6_isKind wsX6_isKind) := goodIn_app (goodIn_of _ (by decide +kernel)) ggX6_lay_X6_isKind
set_option maxRecDepth 20000 in
theorem ggX6_lay_X6_outside : GoodIn wsX6_lay wsX6_outside := goodIn_r _ [11] (by decide +kernel) (by decide +kernel)
set_option maxRecDepth 20000 in
theorem gX6_lay_X6_outside : GoodIn wsX6_lay (va_wsS RX6 51 yX6_outside wsX6_outside) := goodIn_app (goodIn_of _ (by decide +kernel)) ggX6_lay_X6_outside
set_option maxRecDepth 20000 in
theorem ggX6_lay_X0_heaviness : GoodIn wsX6_lay wsX0_heaviness := goodIn_r _ [16, 17, 18, 19, 20, 15, 21, 22, 23, 71, 72, 73, 74, 75, 76, 77, 78] (by decide +kernel) (by decide +kernel)
set_option maxRecDepth 20000 in
theorem gX6_lay_X0_heaviness : GoodIn wsX6_lay (wsV RX6 121 RX0 yX0_heaviness wsX0_heaviness) := goodIn_app (goodIn_of _ (by decide +kernel)) ggX6_lay_X0_heaviness
set_option maxRecDepth 20000 in
theorem ggX6_lay_X1_remember : GoodIn wsX6_lay wsX1_remember := goodIn_r _ [28, 29, 30, 31, 32, 33, 34, 35, 36, 37, 38, 39, 15, 40, 41, 42, 43, 44, 45, 46, 47, 17, 48, 49, 50, 51, 52, 22, 23, 53, 65, 66, 67, 68, 69, 70, 71, 72, 73, 74, 75, 76, 77, 78] (by decide +kernel) (by decide +kernel)
set_option maxRecDepth 20000 in
theorem gX6_lay_X1_remember : GoodIn wsX6_lay (wsV RX6 140 RX1 yX1_remember wsX1_remember) := goodIn_app (goodIn_of _ (by decide +kernel)) ggX6_lay_X1_remember
set_option maxRecDepth 20000 in
theorem ggX6_lay_X0_putOver : GoodIn wsX6_lay wsX0_putOver := goodIn_r _ [57, 17, 48, 22, 23, 53, 41, 71, 72, 73, 74, 75, 76, 77, 78] (by decide +kernel) (by decide +kernel)
set_option maxRecDepth 20000 in
theorem gX6_lay_X0_putOver : GoodIn wsX6_lay (wsV RX6 143 RX0 yX0_putOver wsX0_putOver) := goodIn_app (goodIn_of _ (by decide +kernel)) ggX6_lay_X0_putOver
theorem dX6_lay_0 : decode cX6_lay 0 = .ok (.iload_n 1, 1) := by decide +kernel
theorem dX6_lay_1 : decode cX6_lay 1 = .ok (.invokestatic 137, 3) := by decide +kernel
theorem dX6_lay_4 : decode cX6_lay 4 = .ok (.ifCond .eq 13, 3) := by decide +kernel
theorem dX6_lay_7 : decode cX6_lay 7 = .ok (.iload_n 2, 1) := by decide +kernel
theorem dX6_lay_8 : decode cX6_lay 8 = .ok (.iconst 1, 1) := by decide +kernel
theorem dX6_lay_9 : decode cX6_lay 9 = .ok (.bipush 20, 2) := by decide +kernel
theorem dX6_lay_11 : decode cX6_lay 11 = .ok (.invokestatic 51, 3) := by decide +kernel
theorem dX6_lay_14 : decode cX6_lay 14 = .ok (.ifCond .eq 5, 3) := by decide +kernel
theorem dX6_lay_17 : decode cX6_lay 17 = .ok (.iconst (-1), 1) := by decide +kernel
theorem dX6_lay_18 : decode cX6_lay 18 = .ok (.ireturn, 1) := by decide +kernel
theorem dX6_lay_19 : decode cX6_lay 19 = .ok (.aload_n 0, 1) := by decide +kernel
theorem dX6_lay_20 : decode cX6_lay 20 = .ok (.getfield 10, 3) := by decide +kernel
theorem dX6_lay_23 : decode cX6_lay 23 = .ok (.getfield 72, 3) := by decide +kernel
theorem dX6_lay_26 : decode cX6_lay 26 = .ok (.astore_n 3, 1) := by decide +kernel
theorem dX6_lay_27 : decode cX6_lay 27 = .ok (.aload_n 3, 1) := by decide +kernel
theorem dX6_lay_28 : decode cX6_lay 28 = .ok (.getfield 117, 3) := by decide +kernel
theorem dX6_lay_31 : decode cX6_lay 31 = .ok (.bipush 10, 2) := by decide +kernel
theorem dX6_lay_33 : decode cX6_lay 33 = .ok (.if_icmp .lt 6, 3) := by decide +kernel
theorem dX6_lay_36 : decode cX6_lay 36 = .ok (.bipush (-3), 2) := by decide +kernel
theorem dX6_lay_38 : decode cX6_lay 38 = .ok (.ireturn, 1) := by decide +kernel
theorem dX6_lay_39 : decode cX6_lay 39 = .ok (.aload_n 3, 1) := by decide +kernel
theorem dX6_lay_40 : decode cX6_lay 40 = .ok (.invokevirtual 121, 3) := by decide +kernel
theorem dX6_lay_43 : decode cX6_lay 43 = .ok (.iload_n 2, 1) := by decide +kernel
theorem dX6_lay_44 : decode cX6_lay 44 = .ok (.iadd, 1) := by decide +kernel
theorem dX6_lay_45 : decode cX6_lay 45 = .ok (.aload_n 0, 1) := by decide +kernel
theorem dX6_lay_46 : decode cX6_lay 46 = .ok (.getfield 10, 3) := by decide +kernel
theorem dX6_lay_49 : decode cX6_lay 49 = .ok (.getfield 55, 3) := by decide +kernel
theorem dX6_lay_52 : decode cX6_lay 52 = .ok (.if_icmp .le 6, 3) := by decide +kernel
theorem dX6_lay_55 : decode cX6_lay 55 = .ok (.bipush (-2), 2) := by decide +kernel
theorem dX6_lay_57 : decode cX6_lay 57 = .ok (.ireturn, 1) := by decide +kernel
theorem dX6_lay_58 : decode cX6_lay 58 = .ok (.aload_n 0, 1) := by decide +kernel
theorem dX6_lay_59 : decode cX6_lay 59 = .ok (.getfield 10, 3) := by decide +kernel
theorem dX6_lay_62 : decode cX6_lay 62 = .ok (.invokevirtual 140, 3) := by decide +kernel
theorem dX6_lay_65 : decode cX6_lay 65 = .ok (.aload_n 3, 1) := by decide +kernel
theorem dX6_lay_66 : decode cX6_lay 66 = .ok (.iload_n 1, 1) := by decide +kernel
theorem dX6_lay_67 : decode cX6_lay 67 = .ok (.iload_n 2, 1) := by decide +kernel
theorem dX6_lay_68 : decode cX6_lay 68 = .ok (.iconst 0, 1) := by decide +kernel
theorem dX6_lay_69 : decode cX6_lay 69 = .ok (.invokevirtual 143, 3) := by decide +kernel
theorem dX6_lay_72 : decode cX6_lay 72 = .ok (.aload_n 3, 1) := by decide +kernel
theorem dX6_lay_73 : decode cX6_lay 73 = .ok (.getfield 117, 3) := by decide +kernel
theorem dX6_lay_76 : decode cX6_lay 76 = .ok (.iconst 1, 1) := by decide +kernel
theorem dX6_lay_77 : decode cX6_lay 77 = .ok (.isub, 1) := by decide +kernel
theorem dX6_lay_78 : decode cX6_lay 78 = .ok (.ireturn, 1) := by decide +kernel
set_option maxRecDepth 20000 in
theorem ggX6_strip_X6_outside : GoodIn wsX6_strip wsX6_outside := goodIn_r _ [7] (by decide +kernel) (by decide +kernel)
set_option maxRecDepth 20000 in
theorem gX6_strip_X6_outside : GoodIn wsX6_strip (va_wsS RX6 51 yX6_outside wsX6_outside) := goodIn_app (goodIn_of _ (by decide +kernel)) ggX6_strip_X6_outside
set_option maxRecDepth 20000 in
theorem ggX6_strip_X1_remember : GoodIn wsX6_strip wsX1_remember := goodIn_r _ [12, 13, 14, 15, 16, 17, 18, 19, 20, 21, 22, 23, 24, 25, 26, 27, 28, 29, 30, 31, 32, 33, 34, 35, 36, 37, 38, 39, 40, 41, 49, 50, 51, 52, 53, 54, 55, 56, 57, 58, 59, 60, 61, 62] (by decide +kernel) (by decide +kernel)
set_option maxRecDepth 20000 in
theorem gX6_strip_X1_remember : GoodIn wsX6_strip (wsV RX6 140 RX1 yX1_remember wsX1_remember) := goodIn_app (goodIn_of _ (by decide +kernel)) ggX6_strip_X1_remember
theorem dX6_strip_0 : decode cX6_strip 0 = .ok (.iload_n 1, 1) := by decide +kernel
theorem dX6_strip_1 : decode cX6_strip 1 = .ok (.iconst 1, 1) := by decide +kernel
theorem dX6_strip_2 : decode cX6_strip 2 = .ok (.bipush 10, 2) := by decide +kernel
theorem dX6_strip_4 : decode cX6_strip 4 = .ok (.invokestatic 51, 3) := by decide +kernel
theorem dX6_strip_7 : decode cX6_strip 7 = .ok (.ifCond .eq 5, 3) := by decide +kernel
theorem dX6_strip_10 : decode cX6_strip 10 = .ok (.iconst (-1), 1) := by decide +kernel
theorem dX6_strip_11 : decode cX6_strip 11 = .ok (.ireturn, 1) := by decide +kernel
theorem dX6_strip_12 : decode cX6_strip 12 = .ok (.iload_n 1, 1) := by decide +kernel
theorem dX6_strip_13 : decode cX6_strip 13 = .ok (.aload_n 0, 1) := by decide +kernel
theorem dX6_strip_14 : decode cX6_strip 14 = .ok (.getfield 10, 3) := by decide +kernel
theorem dX6_strip_17 : decode cX6_strip 17 = .ok (.getfield 72, 3) := by decide +kernel
theorem dX6_strip_20 : decode cX6_strip 20 = .ok (.getfield 117, 3) := by decide +kernel
theorem dX6_strip_23 : decode cX6_strip 23 = .ok (.if_icmp .le 6, 3) := by decide +kernel
theorem dX6_strip_26 : decode cX6_strip 26 = .ok (.bipush (-2), 2) := by decide +kernel
theorem dX6_strip_28 : decode cX6_strip 28 = .ok (.ireturn, 1) := by decide +kernel
theorem dX6_strip_29 : decode cX6_strip 29 = .ok (.aload_n 0, 1) := by decide +kernel
theorem dX6_strip_30 : decode cX6_strip 30 = .ok (.getfield 10, 3) := by decide +kernel
theorem dX6_strip_33 : decode cX6_strip 33 = .ok (.invokevirtual 140, 3) := by decide +kernel
theorem dX6_strip_36 : decode cX6_strip 36 = .ok (.aload_n 0, 1) := by decide +kernel
theorem dX6_strip_37 : decode cX6_strip 37 = .ok (.getfield 10, 3) := by decide +kernel
theorem dX6_strip_40 : decode cX6_strip 40 = .ok (.getfield 72, 3) := by decide +kernel
theorem dX6_strip_43 : decode cX6_strip 43 = .ok (.dup, 1) := by decide +kernel
theorem dX6_strip_44 : decode cX6_strip 44 = .ok (.getfield 117, 3) := by decide +kernel
theorem dX6_strip_47 : decode cX6_strip 47 = .ok (.iload_n 1, 1) := by decide +kernel
theorem dX6_strip_48 : decode cX6_strip 48 = .ok (.isub, 1) := by decide +kernel
theorem dX6_strip_49 : decode cX6_strip 49 = .ok (.putfield 117, 3) := by decide +kernel
theorem dX6_strip_52 : decode cX6_strip 52 = .ok (.aload_n 0, 1) := by decide +kernel
theorem dX6_strip_53 : decode cX6_strip 53 = .ok (.getfield 10, 3) := by decide +kernel
theorem dX6_strip_56 : decode cX6_strip 56 = .ok (.getfield 72, 3) := by decide +kernel
theorem dX6_strip_59 : decode cX6_strip 59 = .ok (.getfield 117, 3) := by decide +kernel
theorem dX6_strip_62 : decode cX6_strip 62 = .ok (.ireturn, 1) := by decide +kernel
set_option maxRecDepth 20000 in
theorem ggX6_pull_X0_has : GoodIn wsX6_pull wsX0_has := goodIn_r _ [12, 13, 62, 63, 64, 65, 66, 67, 68, 69] (by decide +kernel) (by decide +kernel)
set_option maxRecDepth 20000 in
theorem gX6_pull_X0_has : GoodIn wsX6_pull (wsV RX6 75 RX0 yX0_has wsX0_has) := goodIn_app (goodIn_of _ (by decide +kernel)) ggX6_pull_X0_has
set_option maxRecDepth 20000 in
theorem ggX6_pull_X6_outside : GoodIn wsX6_pull wsX6_outside := goodIn_r _ [17] (by decide +kernel) (by decide +kernel)
set_option maxRecDepth 20000 in
theorem gX6_pull_X6_outside : GoodIn wsX6_pull (va_wsS RX6 51 yX6_outside wsX6_outside) := goodIn_app (goodIn_of _ (by decide +kernel)) ggX6_pull_X6_outside
set_option maxRecDepth 20000 in
theorem ggX6_pull_X1_remember : GoodIn wsX6_pull wsX1_remember := goodIn_r _ [22, 23, 24, 25, 26, 27, 28, 6, 29, 30, 31, 32, 11, 33, 34, 35, 36, 37, 38, 39, 40, 13, 41, 42, 43, 44, 45, 46, 47, 48, 56, 57, 58, 59, 60, 61, 62, 63, 64, 65, 66, 67, 68, 69] (by decide +kernel) (by decide +kernel)
set_option maxRecDepth 20000 in
theorem gX6_pull_X1_remember : GoodIn wsX6_pull (wsV RX6 140 RX1 yX1_remember wsX1_remember) := goodIn_app (goodIn_of _ (by decide +kernel)) ggX6_pull_X1_remember
theorem dX6_pull_0 : decode cX6_pull 0 = .ok (.aload_n 0, 1) := by decide +kernel
theorem dX6_pull_1 : decode cX6_pull 1 = .ok (.getfield 10, 3) := by decide +kernel
theorem dX6_pull_4 : decode cX6_pull 4 = .ok (.getfield 72, 3) := by decide +kernel
theorem dX6_pull_7 : decode cX6_pull 7 = .ok (.astore_n 3, 1) := by decide +kernel
theorem dX6_pull_8 : decode cX6_pull 8 = .ok (.aload_n 3, 1) := by decide +kernel
theorem dX6_pull_9 : decode cX6_pull 9 = .ok (.iload_n 1, 1) := by decide +kernel
theorem dX6_pull_10 : decode cX6_pull 10 = .ok (.invokevirtual 75, 3) := by decide +kernel
theorem dX6_pull_13 : decode cX6_pull 13 = .ok (.ifCond .eq 13, 3) := by decide +kernel
theorem dX6_pull_16 : decode cX6_pull 16 = .ok (.iload_n 2, 1) := by decide +kernel
theorem dX6_pull_17 : decode cX6_pull 17 = .ok (.iconst 1, 1) := by decide +kernel
theorem dX6_pull_18 : decode cX6_pull 18 = .ok (.bipush 20, 2) := by decide +kernel
theorem dX6_pull_20 : decode cX6_pull 20 = .ok (.invokestatic 51, 3) := by decide +kernel
theorem dX6_pull_23 : decode cX6_pull 23 = .ok (.ifCond .eq 5, 3) := by decide +kernel
theorem dX6_pull_26 : decode cX6_pull 26 = .ok (.iconst (-1), 1) := by decide +kernel
theorem dX6_pull_27 : decode cX6_pull 27 = .ok (.ireturn, 1) := by decide +kernel
theorem dX6_pull_28 : decode cX6_pull 28 = .ok (.aload_n 3, 1) := by decide +kernel
theorem dX6_pull_29 : decode cX6_pull 29 = .ok (.getfield 83, 3) := by decide +kernel
theorem dX6_pull_32 : decode cX6_pull 32 = .ok (.iload_n 1, 1) := by decide +kernel
theorem dX6_pull_33 : decode cX6_pull 33 = .ok (.iaload, 1) := by decide +kernel
theorem dX6_pull_34 : decode cX6_pull 34 = .ok (.iconst 1, 1) := by decide +kernel
theorem dX6_pull_35 : decode cX6_pull 35 = .ok (.if_icmp .gt 6, 3) := by decide +kernel
theorem dX6_pull_38 : decode cX6_pull 38 = .ok (.bipush (-2), 2) := by decide +kernel
theorem dX6_pull_40 : decode cX6_pull 40 = .ok (.ireturn, 1) := by decide +kernel
theorem dX6_pull_41 : decode cX6_pull 41 = .ok (.aload_n 0, 1) := by decide +kernel
theorem dX6_pull_42 : decode cX6_pull 42 = .ok (.getfield 10, 3) := by decide +kernel
theorem dX6_pull_45 : decode cX6_pull 45 = .ok (.invokevirtual 140, 3) := by decide +kernel
theorem dX6_pull_48 : decode cX6_pull 48 = .ok (.aload_n 3, 1) := by decide +kernel
theorem dX6_pull_49 : decode cX6_pull 49 = .ok (.getfield 83, 3) := by decide +kernel
theorem dX6_pull_52 : decode cX6_pull 52 = .ok (.iload_n 1, 1) := by decide +kernel
theorem dX6_pull_53 : decode cX6_pull 53 = .ok (.iconst 1, 1) := by decide +kernel
theorem dX6_pull_54 : decode cX6_pull 54 = .ok (.aload_n 3, 1) := by decide +kernel
theorem dX6_pull_55 : decode cX6_pull 55 = .ok (.getfield 83, 3) := by decide +kernel
theorem dX6_pull_58 : decode cX6_pull 58 = .ok (.iload_n 1, 1) := by decide +kernel
theorem dX6_pull_59 : decode cX6_pull 59 = .ok (.iaload, 1) := by decide +kernel
theorem dX6_pull_60 : decode cX6_pull 60 = .ok (.iload_n 2, 1) := by decide +kernel
theorem dX6_pull_61 : decode cX6_pull 61 = .ok (.isub, 1) := by decide +kernel
theorem dX6_pull_62 : decode cX6_pull 62 = .ok (.invokestatic 147, 3) := by decide +kernel
theorem dX6_pull_65 : decode cX6_pull 65 = .ok (.iastore, 1) := by decide +kernel
theorem dX6_pull_66 : decode cX6_pull 66 = .ok (.aload_n 3, 1) := by decide +kernel
theorem dX6_pull_67 : decode cX6_pull 67 = .ok (.getfield 83, 3) := by decide +kernel
theorem dX6_pull_70 : decode cX6_pull 70 = .ok (.iload_n 1, 1) := by decide +kernel
theorem dX6_pull_71 : decode cX6_pull 71 = .ok (.iaload, 1) := by decide +kernel
theorem dX6_pull_72 : decode cX6_pull 72 = .ok (.ireturn, 1) := by decide +kernel
set_option maxRecDepth 20000 in
theorem ggX6_fire_X6_outside : GoodIn wsX6_fire wsX6_outside := goodIn_r _ [6] (by decide +kernel) (by decide +kernel)
set_option maxRecDepth 20000 in
theorem gX6_fire_X6_outside : GoodIn wsX6_fire (va_wsS RX6 51 yX6_outside wsX6_outside) := goodIn_app (goodIn_of _ (by decide +kernel)) ggX6_fire_X6_outside
set_option maxRecDepth 20000 in
theorem ggX6_fire_X1_remember : GoodIn wsX6_fire wsX1_remember := goodIn_r _ [11, 12, 13, 14, 15, 16, 17, 18, 19, 20, 21, 22, 23, 24, 25, 26, 27, 28, 29, 30, 31, 32, 33, 34, 35, 36, 37, 38, 39, 40, 60, 61, 62, 63, 64, 65, 66, 67, 68, 69, 70, 71, 72, 73] (by decide +kernel) (by decide +kernel)
set_option maxRecDepth 20000 in
theorem gX6_fire_X1_remember : GoodIn wsX6_fire (wsV RX6 140 RX1 yX1_remember wsX1_remember) := goodIn_app (goodIn_of _ (by decide +kernel)) ggX6_fire_X1_remember
set_option maxRecDepth 20000 in
theorem ggX6_fire_X0_burn : GoodIn wsX6_fire wsX0_burn := goodIn_r _ [44, 32, 45, 46, 47, 23, 48, 39, 49, 50, 51, 52, 38, 66, 67, 68, 69, 70, 71, 72, 73] (by decide +kernel) (by decide +kernel)
set_option maxRecDepth 20000 in
theorem gX6_fire_X0_burn : GoodIn wsX6_fire (wsV RX6 153 RX0 yX0_burn wsX0_burn) := goodIn_app (goodIn_of _ (by decide +kernel)) ggX6_fire_X0_burn
theorem dX6_fire_0 : decode cX6_fire 0 = .ok (.iload_n 1, 1) := by decide +kernel
theorem dX6_fire_1 : decode cX6_fire 1 = .ok (.iconst 0, 1) := by decide +kernel
theorem dX6_fire_2 : decode cX6_fire 2 = .ok (.sipush 999, 3) := by decide +kernel
theorem dX6_fire_5 : decode cX6_fire 5 = .ok (.invokestatic 51, 3) := by decide +kernel
theorem dX6_fire_8 : decode cX6_fire 8 = .ok (.ifCond .eq 5, 3) := by decide +kernel
theorem dX6_fire_11 : decode cX6_fire 11 = .ok (.iconst (-1), 1) := by decide +kernel
theorem dX6_fire_12 : decode cX6_fire 12 = .ok (.ireturn, 1) := by decide +kernel
theorem dX6_fire_13 : decode cX6_fire 13 = .ok (.aload_n 0, 1) := by decide +kernel
theorem dX6_fire_14 : decode cX6_fire 14 = .ok (.getfield 10, 3) := by decide +kernel
theorem dX6_fire_17 : decode cX6_fire 17 = .ok (.invokevirtual 140, 3) := by decide +kernel
theorem dX6_fire_20 : decode cX6_fire 20 = .ok (.aload_n 0, 1) := by decide +kernel
theorem dX6_fire_21 : decode cX6_fire 21 = .ok (.getfield 10, 3) := by decide +kernel
theorem dX6_fire_24 : decode cX6_fire 24 = .ok (.getfield 72, 3) := by decide +kernel
theorem dX6_fire_27 : decode cX6_fire 27 = .ok (.iload_n 1, 1) := by decide +kernel
theorem dX6_fire_28 : decode cX6_fire 28 = .ok (.invokevirtual 153, 3) := by decide +kernel
theorem dX6_fire_31 : decode cX6_fire 31 = .ok (.ireturn, 1) := by decide +kernel
set_option maxRecDepth 20000 in
theorem ggX6_drift_X6_refuseYears : GoodIn wsX6_drift wsX6_refuseYears := goodIn_r _ [5, 6, 7, 8, 9, 10, 4, 11, 90, 91, 92, 93, 94, 95, 96, 97, 98, 99, 100, 101, 102, 103, 104, 105, 106, 107, 108, 109, 110] (by decide +kernel) (by decide +kernel)
set_option maxRecDepth 20000 in
theorem gX6_drift_X6_refuseYears : GoodIn wsX6_drift (wsV RX6 130 RX6 yX6_refuseYears wsX6_refuseYears) := goodIn_app (goodIn_of _ (by decide +kernel)) ggX6_drift_X6_refuseYears
set_option maxRecDepth 20000 in
theorem ggX6_drift_X6_liveThrough : GoodIn wsX6_drift wsX6_liveThrough := goodIn_r _ [15, 6, 7, 16, 8, 17, 18, 19, 20, 21, 22, 23, 24, 25, 26, 27, 28, 29, 30, 31, 32, 33, 34, 35, 36, 37, 38, 39, 40, 41, 42, 43, 44, 45, 46, 47, 48, 49, 50, 51, 52, 53, 54, 55, 56, 57, 58, 59, 60, 61, 62, 63, 64, 65, 66, 67, 68, 69, 70, 71, 72, 73, 74, 75, 76, 77, 78, 79, 80, 81, 82, 83, 84, 85, 86, 87, 88, 89, 90, 91, 92, 93, 94, 95, 96, 97, 98, 99, 100, 101, 102, 103, 104, 105, 106, 107, 108, 109, 110, 111, 112] (by decide +kernel) (by decide +kernel)
set_option maxRecDepth 20000 in
theorem gX6_drift_X6_liveThrough : GoodIn wsX6_drift (wsV RX6 133 RX6 yX6_liveThrough wsX6_liveThrough) := goodIn_app (goodIn_of _ (by decide +kernel)) ggX6_drift_X6_liveThrough
theorem dX6_drift_0 : decode cX6_drift 0 = .ok (.aload_n 0, 1) := by decide +kernel
theorem dX6_drift_1 : decode cX6_drift 1 = .ok (.iload_n 1, 1) := by decide +kernel
theorem dX6_drift_2 : decode cX6_drift 2 = .ok (.invokevirtual 130, 3) := by decide +kernel
theorem dX6_drift_5 : decode cX6_drift 5 = .ok (.istore_n 2, 1) := by decide +kernel
theorem dX6_drift_6 : decode cX6_drift 6 = .ok (.iload_n 2, 1) := by decide +kernel
theorem dX6_drift_7 : decode cX6_drift 7 = .ok (.ifCond .ge 7, 3) := by decide +kernel
theorem dX6_drift_10 : decode cX6_drift 10 = .ok (.iload_n 2, 1) := by decide +kernel
theorem dX6_drift_11 : decode cX6_drift 11 = .ok (.goto 9, 3) := by decide +kernel
theorem dX6_drift_14 : decode cX6_drift 14 = .ok (.aload_n 0, 1) := by decide +kernel
theorem dX6_drift_15 : decode cX6_drift 15 = .ok (.iload_n 1, 1) := by decide +kernel
theorem dX6_drift_16 : decode cX6_drift 16 = .ok (.iconst 1, 1) := by decide +kernel
theorem dX6_drift_17 : decode cX6_drift 17 = .ok (.invokevirtual 133, 3) := by decide +kernel
theorem dX6_drift_20 : decode cX6_drift 20 = .ok (.ireturn, 1) := by decide +kernel
set_option maxRecDepth 20000 in
theorem ggX6_undo_X1_goBack : GoodIn wsX6_undo wsX1_goBack := goodIn_r _ [7, 8, 9, 10, 11, 12, 13, 14, 15, 16, 17, 18, 19, 20, 21, 22, 23, 24, 25, 26, 27, 28, 29, 30, 31, 32, 40, 41, 42, 43, 44, 45, 46, 47, 48, 49, 50, 51, 52, 53] (by decide +kernel) (by decide +kernel)
set_option maxRecDepth 20000 in
theorem gX6_undo_X1_goBack : GoodIn wsX6_undo (wsV RX6 156 RX1 yX1_goBack wsX1_goBack) := goodIn_app (goodIn_of _ (by decide +kernel)) ggX6_undo_X1_goBack
theorem dX6_undo_0 : decode cX6_undo 0 = .ok (.aload_n 0, 1) := by decide +kernel
theorem dX6_undo_1 : decode cX6_undo 1 = .ok (.getfield 10, 3) := by decide +kernel
theorem dX6_undo_4 : decode cX6_undo 4 = .ok (.getfield 127, 3) := by decide +kernel
theorem dX6_undo_7 : decode cX6_undo 7 = .ok (.ifCond .ne 6, 3) := by decide +kernel
theorem dX6_undo_10 : decode cX6_undo 10 = .ok (.bipush (-4), 2) := by decide +kernel
theorem dX6_undo_12 : decode cX6_undo 12 = .ok (.ireturn, 1) := by decide +kernel
theorem dX6_undo_13 : decode cX6_undo 13 = .ok (.aload_n 0, 1) := by decide +kernel
theorem dX6_undo_14 : decode cX6_undo 14 = .ok (.getfield 10, 3) := by decide +kernel
theorem dX6_undo_17 : decode cX6_undo 17 = .ok (.invokevirtual 156, 3) := by decide +kernel
theorem dX6_undo_20 : decode cX6_undo 20 = .ok (.aload_n 0, 1) := by decide +kernel
theorem dX6_undo_21 : decode cX6_undo 21 = .ok (.getfield 10, 3) := by decide +kernel
theorem dX6_undo_24 : decode cX6_undo 24 = .ok (.getfield 127, 3) := by decide +kernel
theorem dX6_undo_27 : decode cX6_undo 27 = .ok (.ireturn, 1) := by decide +kernel
theorem dX6_seed_0 : decode cX6_seed 0 = .ok (.iload_n 1, 1) := by decide +kernel
theorem dX6_seed_1 : decode cX6_seed 1 = .ok (.ifCond .ge 5, 3) := by decide +kernel
theorem dX6_seed_4 : decode cX6_seed 4 = .ok (.iconst (-1), 1) := by decide +kernel
theorem dX6_seed_5 : decode cX6_seed 5 = .ok (.ireturn, 1) := by decide +kernel
theorem dX6_seed_6 : decode cX6_seed 6 = .ok (.aload_n 0, 1) := by decide +kernel
theorem dX6_seed_7 : decode cX6_seed 7 = .ok (.getfield 10, 3) := by decide +kernel
theorem dX6_seed_10 : decode cX6_seed 10 = .ok (.getfield 72, 3) := by decide +kernel
theorem dX6_seed_13 : decode cX6_seed 13 = .ok (.getfield 159, 3) := by decide +kernel
theorem dX6_seed_16 : decode cX6_seed 16 = .ok (.istore_n 2, 1) := by decide +kernel
theorem dX6_seed_17 : decode cX6_seed 17 = .ok (.aload_n 0, 1) := by decide +kernel
theorem dX6_seed_18 : decode cX6_seed 18 = .ok (.getfield 10, 3) := by decide +kernel
theorem dX6_seed_21 : decode cX6_seed 21 = .ok (.getfield 72, 3) := by decide +kernel
theorem dX6_seed_24 : decode cX6_seed 24 = .ok (.iload_n 1, 1) := by decide +kernel
theorem dX6_seed_25 : decode cX6_seed 25 = .ok (.putfield 159, 3) := by decide +kernel
theorem dX6_seed_28 : decode cX6_seed 28 = .ok (.iload_n 2, 1) := by decide +kernel
theorem dX6_seed_29 : decode cX6_seed 29 = .ok (.ireturn, 1) := by decide +kernel
set_option maxRecDepth 20000 in
theorem ggX6_ahead_X6_outside : GoodIn wsX6_ahead wsX6_outside := goodIn_r _ [7] (by decide +kernel) (by decide +kernel)
set_option maxRecDepth 20000 in
theorem gX6_ahead_X6_outside : GoodIn wsX6_ahead (va_wsS RX6 51 yX6_outside wsX6_outside) := goodIn_app (goodIn_of _ (by decide +kernel)) ggX6_ahead_X6_outside
set_option maxRecDepth 20000 in
theorem ggX6_ahead_X6_startTrial : GoodIn wsX6_ahead wsX6_startTrial := goodIn_r _ [11, 1, 12, 13, 14, 15, 16, 17, 18, 19, 20, 21, 22, 23, 24, 25, 26, 27, 28, 29, 30, 31, 32, 33, 34, 92, 93, 94, 95, 96, 97, 98, 107, 108, 109, 110, 111, 112, 99, 100, 101, 102, 103, 104, 105, 106] (by decide +kernel) (by decide +kernel)
set_option maxRecDepth 20000 in
theorem gX6_ahead_X6_startTrial : GoodIn wsX6_ahead (wsV RX6 162 RX6 yX6_startTrial wsX6_startTrial) := goodIn_app (goodIn_of _ (by decide +kernel)) ggX6_ahead_X6_startTrial
set_option maxRecDepth 20000 in
theorem ggX6_ahead_X6_leaksOfTrial : GoodIn wsX6_ahead wsX6_leaksOfTrial := goodIn_r _ [38, 39, 40, 41, 42, 6, 43, 44, 45, 46, 47, 1, 12, 48, 49, 50, 51, 52, 53, 54, 55, 56, 57, 58, 59, 17, 60, 26, 61, 62, 63, 64, 20, 19, 65, 66, 67, 68, 27, 32, 69, 70, 71, 72, 33, 73, 74, 75, 76, 77, 78, 79, 80, 81, 82, 83, 92, 93, 94, 95, 96, 97, 98, 107, 108, 109, 110, 111, 112, 99, 100, 101, 102, 103, 104, 105, 106, 113, 114] (by decide +kernel) (by decide +kernel)
set_option maxRecDepth 20000 in
theorem gX6_ahead_X6_leaksOfTrial : GoodIn wsX6_ahead (wsV RX6 165 RX6 yX6_leaksOfTrial wsX6_leaksOfTrial) := goodIn_app (goodIn_of _ (by decide +kernel)) ggX6_ahead_X6_leaksOfTrial
set_option maxRecDepth 20000 in
theorem ggX6_ahead_X0_heaviness : GoodIn wsX6_ahead wsX0_heaviness := goodIn_r _ [87, 26, 88, 89, 90, 17, 91, 32, 33, 99, 100, 101, 102, 103, 104, 105, 106] (by decide +kernel) (by decide +kernel)
set_option maxRecDepth 20000 in
theorem gX6_ahead_X0_heaviness : GoodIn wsX6_ahead (wsV RX6 121 RX0 yX0_heaviness wsX0_heaviness) := goodIn_app (goodIn_of _ (by decide +kernel)) ggX6_ahead_X0_heaviness
theorem dX6_ahead_0 : decode cX6_ahead 0 = .ok (.iload_n 1, 1) := by decide +kernel
theorem dX6_ahead_1 : decode cX6_ahead 1 = .ok (.iconst 0, 1) := by decide +kernel
theorem dX6_ahead_2 : decode cX6_ahead 2 = .ok (.bipush 40, 2) := by decide +kernel
theorem dX6_ahead_4 : decode cX6_ahead 4 = .ok (.invokestatic 51, 3) := by decide +kernel
theorem dX6_ahead_7 : decode cX6_ahead 7 = .ok (.ifCond .ne 12, 3) := by decide +kernel
theorem dX6_ahead_10 : decode cX6_ahead 10 = .ok (.iload_n 2, 1) := by decide +kernel
theorem dX6_ahead_11 : decode cX6_ahead 11 = .ok (.iconst 0, 1) := by decide +kernel
theorem dX6_ahead_12 : decode cX6_ahead 12 = .ok (.iconst 2, 1) := by decide +kernel
theorem dX6_ahead_13 : decode cX6_ahead 13 = .ok (.invokestatic 51, 3) := by decide +kernel
theorem dX6_ahead_16 : decode cX6_ahead 16 = .ok (.ifCond .eq 5, 3) := by decide +kernel
theorem dX6_ahead_19 : decode cX6_ahead 19 = .ok (.iconst (-1), 1) := by decide +kernel
theorem dX6_ahead_20 : decode cX6_ahead 20 = .ok (.ireturn, 1) := by decide +kernel
theorem dX6_ahead_21 : decode cX6_ahead 21 = .ok (.aload_n 0, 1) := by decide +kernel
theorem dX6_ahead_22 : decode cX6_ahead 22 = .ok (.invokevirtual 162, 3) := by decide +kernel
theorem dX6_ahead_25 : decode cX6_ahead 25 = .ok (.aload_n 0, 1) := by decide +kernel
theorem dX6_ahead_26 : decode cX6_ahead 26 = .ok (.iload_n 1, 1) := by decide +kernel
theorem dX6_ahead_27 : decode cX6_ahead 27 = .ok (.invokevirtual 165, 3) := by decide +kernel
theorem dX6_ahead_30 : decode cX6_ahead 30 = .ok (.pop, 1) := by decide +kernel
theorem dX6_ahead_31 : decode cX6_ahead 31 = .ok (.iload_n 2, 1) := by decide +kernel
theorem dX6_ahead_32 : decode cX6_ahead 32 = .ok (.lookupswitch 44 #[(0, 28), (1, 36)], 28) := by decide +kernel
theorem dX6_ahead_60 : decode cX6_ahead 60 = .ok (.aload_n 0, 1) := by decide +kernel
theorem dX6_ahead_61 : decode cX6_ahead 61 = .ok (.getfield 22, 3) := by decide +kernel
theorem dX6_ahead_64 : decode cX6_ahead 64 = .ok (.getfield 117, 3) := by decide +kernel
theorem dX6_ahead_67 : decode cX6_ahead 67 = .ok (.ireturn, 1) := by decide +kernel
theorem dX6_ahead_68 : decode cX6_ahead 68 = .ok (.aload_n 0, 1) := by decide +kernel
theorem dX6_ahead_69 : decode cX6_ahead 69 = .ok (.getfield 22, 3) := by decide +kernel
theorem dX6_ahead_72 : decode cX6_ahead 72 = .ok (.getfield 118, 3) := by decide +kernel
theorem dX6_ahead_75 : decode cX6_ahead 75 = .ok (.ireturn, 1) := by decide +kernel
theorem dX6_ahead_76 : decode cX6_ahead 76 = .ok (.aload_n 0, 1) := by decide +kernel
theorem dX6_ahead_77 : decode cX6_ahead 77 = .ok (.getfield 22, 3) := by decide +kernel
theorem dX6_ahead_80 : decode cX6_ahead 80 = .ok (.invokevirtual 121, 3) := by decide +kernel
theorem dX6_ahead_83 : decode cX6_ahead 83 = .ok (.ireturn, 1) := by decide +kernel
set_option maxRecDepth 20000 in
theorem ggX6_leak_X6_startTrial : GoodIn wsX6_leak wsX6_startTrial := goodIn_r _ [5, 6, 7, 8, 9, 10, 11, 12, 13, 14, 15, 16, 17, 18, 19, 20, 21, 22, 23, 24, 25, 26, 27, 28, 29, 70, 71, 72, 73, 74, 75, 76, 77, 78, 79, 80, 81, 82, 83, 84, 85, 86, 87, 88, 89, 90] (by decide +kernel) (by decide +kernel)
set_option maxRecDepth 20000 in
theorem gX6_leak_X6_startTrial : GoodIn wsX6_leak (wsV RX6 162 RX6 yX6_startTrial wsX6_startTrial) := goodIn_app (goodIn_of _ (by decide +kernel)) ggX6_leak_X6_startTrial
set_option maxRecDepth 20000 in
theorem ggX6_leak_X6_yearOfTrial : GoodIn wsX6_leak wsX6_yearOfTrial := goodIn_r _ [33, 6, 7, 34, 35, 36, 37, 38, 39, 40, 41, 42, 43, 44, 45, 12, 46, 21, 47, 48, 49, 50, 15, 14, 51, 52, 53, 54, 22, 27, 55, 56, 57, 58, 28, 59, 60, 61, 62, 63, 64, 65, 66, 67, 68, 69, 70, 71, 72, 73, 74, 75, 76, 77, 78, 79, 80, 81, 82, 83, 84, 85, 86, 87, 88, 89, 90, 91, 92] (by decide +kernel) (by decide +kernel)
set_option maxRecDepth 20000 in
theorem gX6_leak_X6_yearOfTrial : GoodIn wsX6_leak (wsV RX6 168 RX6 yX6_yearOfTrial wsX6_yearOfTrial) := goodIn_app (goodIn_of _ (by decide +kernel)) ggX6_leak_X6_yearOfTrial
theorem dX6_leak_0 : decode cX6_leak 0 = .ok (.aload_n 0, 1) := by decide +kernel
theorem dX6_leak_1 : decode cX6_leak 1 = .ok (.invokevirtual 162, 3) := by decide +kernel
theorem dX6_leak_4 : decode cX6_leak 4 = .ok (.iconst 1, 1) := by decide +kernel
theorem dX6_leak_5 : decode cX6_leak 5 = .ok (.istore_n 1, 1) := by decide +kernel
theorem dX6_leak_6 : decode cX6_leak 6 = .ok (.iload_n 1, 1) := by decide +kernel
theorem dX6_leak_7 : decode cX6_leak 7 = .ok (.bipush 40, 2) := by decide +kernel
theorem dX6_leak_9 : decode cX6_leak 9 = .ok (.if_icmp .gt 18, 3) := by decide +kernel
theorem dX6_leak_12 : decode cX6_leak 12 = .ok (.aload_n 0, 1) := by decide +kernel
theorem dX6_leak_13 : decode cX6_leak 13 = .ok (.invokevirtual 168, 3) := by decide +kernel
theorem dX6_leak_16 : decode cX6_leak 16 = .ok (.ifCond .le 5, 3) := by decide +kernel
theorem dX6_leak_19 : decode cX6_leak 19 = .ok (.iload_n 1, 1) := by decide +kernel
theorem dX6_leak_20 : decode cX6_leak 20 = .ok (.ireturn, 1) := by decide +kernel
theorem dX6_leak_21 : decode cX6_leak 21 = .ok (.iinc 1 1, 3) := by decide +kernel
theorem dX6_leak_24 : decode cX6_leak 24 = .ok (.goto (-18), 3) := by decide +kernel
theorem dX6_leak_27 : decode cX6_leak 27 = .ok (.bipush (-4), 2) := by decide +kernel
theorem dX6_leak_29 : decode cX6_leak 29 = .ok (.ireturn, 1) := by decide +kernel
set_option maxRecDepth 20000 in
theorem ggX6_bare_X6_startTrial : GoodIn wsX6_bare wsX6_startTrial := goodIn_r _ [7, 1, 8, 9, 10, 11, 12, 13, 14, 15, 16, 17, 18, 19, 20, 21, 22, 23, 24, 25, 26, 27, 28, 29, 30, 71, 72, 73, 74, 75, 76, 77, 86, 87, 88, 89, 90, 91, 78, 79, 80, 81, 82, 83, 84, 85] (by decide +kernel) (by decide +kernel)
set_option maxRecDepth 20000 in
theorem gX6_bare_X6_startTrial : GoodIn wsX6_bare (wsV RX6 162 RX6 yX6_startTrial wsX6_startTrial) := goodIn_app (goodIn_of _ (by decide +kernel)) ggX6_bare_X6_startTrial
set_option maxRecDepth 20000 in
theorem ggX6_bare_X6_yearOfTrial : GoodIn wsX6_bare wsX6_yearOfTrial := goodIn_r _ [34, 1, 8, 35, 36, 37, 38, 39, 40, 41, 42, 43, 44, 45, 46, 13, 47, 22, 48, 49, 50, 51, 16, 15, 52, 53, 54, 55, 23, 28, 56, 57, 58, 59, 29, 60, 61, 62, 63, 64, 65, 66, 67, 68, 69, 70, 71, 72, 73, 74, 75, 76, 77, 86, 87, 88, 89, 90, 91, 78, 79, 80, 81, 82, 83, 84, 85, 92, 93] (by decide +kernel) (by decide +kernel)
set_option maxRecDepth 20000 in
theorem gX6_bare_X6_yearOfTrial : GoodIn wsX6_bare (wsV RX6 168 RX6 yX6_yearOfTrial wsX6_yearOfTrial) := goodIn_app (goodIn_of _ (by decide +kernel)) ggX6_bare_X6_yearOfTrial
theorem dX6_bare_0 : decode cX6_bare 0 = .ok (.aload_n 0, 1) := by decide +kernel
theorem dX6_bare_1 : decode cX6_bare 1 = .ok (.invokevirtual 162, 3) := by decide +kernel
theorem dX6_bare_4 : decode cX6_bare 4 = .ok (.iconst 0, 1) := by decide +kernel
theorem dX6_bare_5 : decode cX6_bare 5 = .ok (.istore_n 1, 1) := by decide +kernel
theorem dX6_bare_6 : decode cX6_bare 6 = .ok (.iload_n 1, 1) := by decide +kernel
theorem dX6_bare_7 : decode cX6_bare 7 = .ok (.bipush 40, 2) := by decide +kernel
theorem dX6_bare_9 : decode cX6_bare 9 = .ok (.if_icmp .gt 26, 3) := by decide +kernel
theorem dX6_bare_12 : decode cX6_bare 12 = .ok (.aload_n 0, 1) := by decide +kernel
theorem dX6_bare_13 : decode cX6_bare 13 = .ok (.getfield 22, 3) := by decide +kernel
theorem dX6_bare_16 : decode cX6_bare 16 = .ok (.getfield 117, 3) := by decide +kernel
theorem dX6_bare_19 : decode cX6_bare 19 = .ok (.ifCond .ne 5, 3) := by decide +kernel
theorem dX6_bare_22 : decode cX6_bare 22 = .ok (.iload_n 1, 1) := by decide +kernel
theorem dX6_bare_23 : decode cX6_bare 23 = .ok (.ireturn, 1) := by decide +kernel
theorem dX6_bare_24 : decode cX6_bare 24 = .ok (.aload_n 0, 1) := by decide +kernel
theorem dX6_bare_25 : decode cX6_bare 25 = .ok (.invokevirtual 168, 3) := by decide +kernel
theorem dX6_bare_28 : decode cX6_bare 28 = .ok (.pop, 1) := by decide +kernel
theorem dX6_bare_29 : decode cX6_bare 29 = .ok (.iinc 1 1, 3) := by decide +kernel
theorem dX6_bare_32 : decode cX6_bare 32 = .ok (.goto (-26), 3) := by decide +kernel
theorem dX6_bare_35 : decode cX6_bare 35 = .ok (.bipush (-4), 2) := by decide +kernel
theorem dX6_bare_37 : decode cX6_bare 37 = .ok (.ireturn, 1) := by decide +kernel
set_option maxRecDepth 20000 in
theorem ggX6_reach_X6_outside : GoodIn wsX6_reach wsX6_outside := goodIn_r _ [8] (by decide +kernel) (by decide +kernel)
set_option maxRecDepth 20000 in
theorem gX6_reach_X6_outside : GoodIn wsX6_reach (va_wsS RX6 51 yX6_outside wsX6_outside) := goodIn_app (goodIn_of _ (by decide +kernel)) ggX6_reach_X6_outside
set_option maxRecDepth 20000 in
theorem ggX6_reach_X5_inYear : GoodIn wsX6_reach wsX5_inYear := goodIn_r _ [13, 14, 15, 55, 56] (by decide +kernel) (by decide +kernel)
set_option maxRecDepth 20000 in
theorem gX6_reach_X5_inYear : GoodIn wsX6_reach (wsV RX6 102 RX5 yX5_inYear wsX5_inYear) := goodIn_app (goodIn_of _ (by decide +kernel)) ggX6_reach_X5_inYear
set_option maxRecDepth 20000 in
theorem ggX6_reach_X0_reachedBy : GoodIn wsX6_reach wsX0_reachedBy := goodIn_r _ [20, 21, 22, 23, 24, 19, 25, 26, 27, 28, 29, 30, 31, 32, 33, 47, 48, 49, 50, 51, 52, 53, 54] (by decide +kernel) (by decide +kernel)
set_option maxRecDepth 20000 in
theorem gX6_reach_X0_reachedBy : GoodIn wsX6_reach (wsV RX6 171 RX0 yX0_reachedBy wsX0_reachedBy) := goodIn_app (goodIn_of _ (by decide +kernel)) ggX6_reach_X0_reachedBy
theorem dX6_reach_0 : decode cX6_reach 0 = .ok (.iload_n 1, 1) := by decide +kernel
theorem dX6_reach_1 : decode cX6_reach 1 = .ok (.iconst (-1), 1) := by decide +kernel
theorem dX6_reach_2 : decode cX6_reach 2 = .ok (.bipush 99, 2) := by decide +kernel
theorem dX6_reach_4 : decode cX6_reach 4 = .ok (.invokestatic 51, 3) := by decide +kernel
theorem dX6_reach_7 : decode cX6_reach 7 = .ok (.ifCond .eq 5, 3) := by decide +kernel
theorem dX6_reach_10 : decode cX6_reach 10 = .ok (.iconst (-1), 1) := by decide +kernel
theorem dX6_reach_11 : decode cX6_reach 11 = .ok (.ireturn, 1) := by decide +kernel
theorem dX6_reach_12 : decode cX6_reach 12 = .ok (.aload_n 0, 1) := by decide +kernel
theorem dX6_reach_13 : decode cX6_reach 13 = .ok (.getfield 10, 3) := by decide +kernel
theorem dX6_reach_16 : decode cX6_reach 16 = .ok (.getfield 72, 3) := by decide +kernel
theorem dX6_reach_19 : decode cX6_reach 19 = .ok (.astore_n 2, 1) := by decide +kernel
theorem dX6_reach_20 : decode cX6_reach 20 = .ok (.aload_n 2, 1) := by decide +kernel
theorem dX6_reach_21 : decode cX6_reach 21 = .ok (.iload_n 1, 1) := by decide +kernel
theorem dX6_reach_22 : decode cX6_reach 22 = .ok (.iconst (-1), 1) := by decide +kernel
theorem dX6_reach_23 : decode cX6_reach 23 = .ok (.if_icmp .ne 20, 3) := by decide +kernel
theorem dX6_reach_26 : decode cX6_reach 26 = .ok (.aload_n 0, 1) := by decide +kernel
theorem dX6_reach_27 : decode cX6_reach 27 = .ok (.getfield 10, 3) := by decide +kernel
theorem dX6_reach_30 : decode cX6_reach 30 = .ok (.getfield 59, 3) := by decide +kernel
theorem dX6_reach_33 : decode cX6_reach 33 = .ok (.aload_n 2, 1) := by decide +kernel
theorem dX6_reach_34 : decode cX6_reach 34 = .ok (.getfield 99, 3) := by decide +kernel
theorem dX6_reach_37 : decode cX6_reach 37 = .ok (.invokevirtual 102, 3) := by decide +kernel
theorem dX6_reach_40 : decode cX6_reach 40 = .ok (.goto 4, 3) := by decide +kernel
theorem dX6_reach_43 : decode cX6_reach 43 = .ok (.iload_n 1, 1) := by decide +kernel
theorem dX6_reach_44 : decode cX6_reach 44 = .ok (.invokevirtual 171, 3) := by decide +kernel
theorem dX6_reach_47 : decode cX6_reach 47 = .ok (.ireturn, 1) := by decide +kernel
set_option maxRecDepth 20000 in
theorem ggX6_cover_X6_isKind : GoodIn wsX6_cover wsX6_isKind := goodIn_r _ [8, 9, 10, 7, 11] (by decide +kernel) (by decide +kernel)
set_option maxRecDepth 20000 in
theorem gX6_cover_X6_isKind : GoodIn wsX6_cover (va_wsS RX6 137 yX6_isKind wsX6_isKind) := goodIn_app (goodIn_of _ (by decide +kernel)) ggX6_cover_X6_isKind
set_option maxRecDepth 20000 in
theorem ggX6_cover_X6_outside : GoodIn wsX6_cover wsX6_outside := goodIn_r _ [11] (by decide +kernel) (by decide +kernel)
set_option maxRecDepth 20000 in
theorem gX6_cover_X6_outside : GoodIn wsX6_cover (va_wsS RX6 51 yX6_outside wsX6_outside) := goodIn_app (goodIn_of _ (by decide +kernel)) ggX6_cover_X6_outside
set_option maxRecDepth 20000 in
theorem ggX6_cover_X6_startTrial : GoodIn wsX6_cover wsX6_startTrial := goodIn_r _ [15, 4, 1, 2, 16, 17, 18, 19, 20, 21, 22, 23, 24, 25, 26, 27, 28, 29, 30, 31, 32, 33, 34, 35, 36, 85, 86, 87, 88, 89, 90, 91, 92, 93, 94, 95, 96, 97, 98, 99, 100, 101, 102, 103, 104, 105] (by decide +kernel) (by decide +kernel)
set_option maxRecDepth 20000 in
theorem gX6_cover_X6_startTrial : GoodIn wsX6_cover (wsV RX6 162 RX6 yX6_startTrial wsX6_startTrial) := goodIn_app (goodIn_of _ (by decide +kernel)) ggX6_cover_X6_startTrial
set_option maxRecDepth 20000 in
theorem ggX6_cover_X0_putOver : GoodIn wsX6_cover wsX0_putOver := goodIn_r _ [40, 28, 29, 34, 35, 36, 21, 98, 99, 100, 101, 102, 103, 104, 105] (by decide +kernel) (by decide +kernel)
set_option maxRecDepth 20000 in
theorem gX6_cover_X0_putOver : GoodIn wsX6_cover (wsV RX6 143 RX0 yX0_putOver wsX0_putOver) := goodIn_app (goodIn_of _ (by decide +kernel)) ggX6_cover_X0_putOver
set_option maxRecDepth 20000 in
theorem ggX6_cover_X6_leaksOfTrialUpTo : GoodIn wsX6_cover wsX6_leaksOfTrialUpTo := goodIn_r _ [44, 45, 46, 47, 7, 48, 4, 1, 49, 50, 51, 52, 53, 54, 55, 56, 57, 58, 59, 60, 19, 61, 28, 62, 63, 64, 65, 22, 21, 66, 67, 68, 69, 29, 34, 70, 71, 72, 73, 35, 74, 75, 76, 77, 78, 79, 80, 81, 82, 83, 84, 85, 86, 87, 88, 89, 90, 91, 92, 93, 94, 95, 96, 97, 98, 99, 100, 101, 102, 103, 104, 105, 106, 107] (by decide +kernel) (by decide +kernel)
set_option maxRecDepth 20000 in
theorem gX6_cover_X6_leaksOfTrialUpTo : GoodIn wsX6_cover (wsV RX6 174 RX6 yX6_leaksOfTrialUpTo wsX6_leaksOfTrialUpTo) := goodIn_app (goodIn_of _ (by decide +kernel)) ggX6_cover_X6_leaksOfTrialUpTo
theorem dX6_cover_0 : decode cX6_cover 0 = .ok (.iload_n 1, 1) := by decide +kernel
theorem dX6_cover_1 : decode cX6_cover 1 = .ok (.invokestatic 137, 3) := by decide +kernel
theorem dX6_cover_4 : decode cX6_cover 4 = .ok (.ifCond .eq 13, 3) := by decide +kernel
theorem dX6_cover_7 : decode cX6_cover 7 = .ok (.iload_n 2, 1) := by decide +kernel
theorem dX6_cover_8 : decode cX6_cover 8 = .ok (.iconst 1, 1) := by decide +kernel
theorem dX6_cover_9 : decode cX6_cover 9 = .ok (.bipush 20, 2) := by decide +kernel
theorem dX6_cover_11 : decode cX6_cover 11 = .ok (.invokestatic 51, 3) := by decide +kernel
theorem dX6_cover_14 : decode cX6_cover 14 = .ok (.ifCond .eq 5, 3) := by decide +kernel
theorem dX6_cover_17 : decode cX6_cover 17 = .ok (.iconst (-1), 1) := by decide +kernel
theorem dX6_cover_18 : decode cX6_cover 18 = .ok (.ireturn, 1) := by decide +kernel
theorem dX6_cover_19 : decode cX6_cover 19 = .ok (.aload_n 0, 1) := by decide +kernel
theorem dX6_cover_20 : decode cX6_cover 20 = .ok (.getfield 10, 3) := by decide +kernel
theorem dX6_cover_23 : decode cX6_cover 23 = .ok (.getfield 72, 3) := by decide +kernel
theorem dX6_cover_26 : decode cX6_cover 26 = .ok (.getfield 117, 3) := by decide +kernel
theorem dX6_cover_29 : decode cX6_cover 29 = .ok (.bipush 10, 2) := by decide +kernel
theorem dX6_cover_31 : decode cX6_cover 31 = .ok (.if_icmp .lt 6, 3) := by decide +kernel
theorem dX6_cover_34 : decode cX6_cover 34 = .ok (.bipush (-3), 2) := by decide +kernel
theorem dX6_cover_36 : decode cX6_cover 36 = .ok (.ireturn, 1) := by decide +kernel
theorem dX6_cover_37 : decode cX6_cover 37 = .ok (.iconst 1, 1) := by decide +kernel
theorem dX6_cover_38 : decode cX6_cover 38 = .ok (.istore_n 3, 1) := by decide +kernel
theorem dX6_cover_39 : decode cX6_cover 39 = .ok (.iload_n 3, 1) := by decide +kernel
theorem dX6_cover_40 : decode cX6_cover 40 = .ok (.bipush 20, 2) := by decide +kernel
theorem dX6_cover_42 : decode cX6_cover 42 = .ok (.if_icmp .gt 34, 3) := by decide +kernel
theorem dX6_cover_45 : decode cX6_cover 45 = .ok (.aload_n 0, 1) := by decide +kernel
theorem dX6_cover_46 : decode cX6_cover 46 = .ok (.invokevirtual 162, 3) := by decide +kernel
theorem dX6_cover_49 : decode cX6_cover 49 = .ok (.aload_n 0, 1) := by decide +kernel
theorem dX6_cover_50 : decode cX6_cover 50 = .ok (.getfield 22, 3) := by decide +kernel
theorem dX6_cover_53 : decode cX6_cover 53 = .ok (.iload_n 1, 1) := by decide +kernel
theorem dX6_cover_54 : decode cX6_cover 54 = .ok (.iload_n 3, 1) := by decide +kernel
theorem dX6_cover_55 : decode cX6_cover 55 = .ok (.iconst 0, 1) := by decide +kernel
theorem dX6_cover_56 : decode cX6_cover 56 = .ok (.invokevirtual 143, 3) := by decide +kernel
theorem dX6_cover_59 : decode cX6_cover 59 = .ok (.aload_n 0, 1) := by decide +kernel
theorem dX6_cover_60 : decode cX6_cover 60 = .ok (.iload_n 2, 1) := by decide +kernel
theorem dX6_cover_61 : decode cX6_cover 61 = .ok (.iconst 0, 1) := by decide +kernel
theorem dX6_cover_62 : decode cX6_cover 62 = .ok (.invokevirtual 174, 3) := by decide +kernel
theorem dX6_cover_65 : decode cX6_cover 65 = .ok (.ifCond .ne 5, 3) := by decide +kernel
theorem dX6_cover_68 : decode cX6_cover 68 = .ok (.iload_n 3, 1) := by decide +kernel
theorem dX6_cover_69 : decode cX6_cover 69 = .ok (.ireturn, 1) := by decide +kernel
theorem dX6_cover_70 : decode cX6_cover 70 = .ok (.iinc 3 1, 3) := by decide +kernel
theorem dX6_cover_73 : decode cX6_cover 73 = .ok (.goto (-34), 3) := by decide +kernel
theorem dX6_cover_76 : decode cX6_cover 76 = .ok (.bipush (-4), 2) := by decide +kernel
theorem dX6_cover_78 : decode cX6_cover 78 = .ok (.ireturn, 1) := by decide +kernel
set_option maxRecDepth 20000 in
theorem ggX6_relief_X6_outside : GoodIn wsX6_relief wsX6_outside := goodIn_r _ [10] (by decide +kernel) (by decide +kernel)
set_option maxRecDepth 20000 in
theorem gX6_relief_X6_outside : GoodIn wsX6_relief (va_wsS RX6 51 yX6_outside wsX6_outside) := goodIn_app (goodIn_of _ (by decide +kernel)) ggX6_relief_X6_outside
set_option maxRecDepth 20000 in
theorem ggX6_relief_X6_startTrial : GoodIn wsX6_relief wsX6_startTrial := goodIn_r _ [14, 5, 2, 3, 15, 16, 17, 18, 19, 20, 21, 22, 23, 24, 25, 26, 27, 28, 29, 30, 31, 32, 33, 34, 35, 100, 101, 102, 103, 104, 105, 106, 107, 108, 109, 110, 111, 112, 113, 114, 115, 116, 117, 118, 119, 120] (by decide +kernel) (by decide +kernel)
set_option maxRecDepth 20000 in
theorem gX6_relief_X6_startTrial : GoodIn wsX6_relief (wsV RX6 162 RX6 yX6_startTrial wsX6_startTrial) := goodIn_app (goodIn_of _ (by decide +kernel)) ggX6_relief_X6_startTrial
set_option maxRecDepth 20000 in
theorem ggX6_relief_X0_takeOut : GoodIn wsX6_relief wsX0_takeOut := goodIn_r _ [39, 27, 28, 33, 34, 35, 40, 41, 42, 18, 43, 113, 114, 115, 116, 117, 118, 119, 120] (by decide +kernel) (by decide +kernel)
set_option maxRecDepth 20000 in
theorem gX6_relief_X0_takeOut : GoodIn wsX6_relief (wsV RX6 178 RX0 yX0_takeOut wsX0_takeOut) := goodIn_app (goodIn_of _ (by decide +kernel)) ggX6_relief_X0_takeOut
set_option maxRecDepth 20000 in
theorem ggX6_relief_X0_heaviness : GoodIn wsX6_relief wsX0_heaviness := goodIn_r _ [47, 27, 48, 49, 50, 18, 51, 33, 34, 113, 114, 115, 116, 117, 118, 119, 120] (by decide +kernel) (by decide +kernel)
set_option maxRecDepth 20000 in
theorem gX6_relief_X0_heaviness : GoodIn wsX6_relief (wsV RX6 121 RX0 yX0_heaviness wsX0_heaviness) := goodIn_app (goodIn_of _ (by decide +kernel)) ggX6_relief_X0_heaviness
set_option maxRecDepth 20000 in
theorem ggX6_relief_X6_leaksOfTrial : GoodIn wsX6_relief wsX6_leaksOfTrial := goodIn_r _ [55, 1, 56, 57, 58, 9, 59, 60, 61, 62, 63, 5, 2, 64, 65, 66, 67, 68, 69, 70, 71, 72, 73, 74, 75, 18, 76, 27, 77, 78, 79, 80, 21, 20, 81, 82, 83, 84, 28, 33, 85, 86, 87, 88, 34, 89, 90, 91, 92, 93, 94, 95, 96, 97, 98, 99, 100, 101, 102, 103, 104, 105, 106, 107, 108, 109, 110, 111, 112, 113, 114, 115, 116, 117, 118, 119, 120, 121, 122] (by decide +kernel) (by decide +kernel)
set_option maxRecDepth 20000 in
theorem gX6_relief_X6_leaksOfTrial : GoodIn wsX6_relief (wsV RX6 165 RX6 yX6_leaksOfTrial wsX6_leaksOfTrial) := goodIn_app (goodIn_of _ (by decide +kernel)) ggX6_relief_X6_leaksOfTrial
theorem dX6_relief_0 : decode cX6_relief 0 = .ok (.iload_n 1, 1) := by decide +kernel
theorem dX6_relief_1 : decode cX6_relief 1 = .ok (.iconst 1, 1) := by decide +kernel
theorem dX6_relief_2 : decode cX6_relief 2 = .ok (.bipush 20, 2) := by decide +kernel
theorem dX6_relief_4 : decode cX6_relief 4 = .ok (.invokestatic 51, 3) := by decide +kernel
theorem dX6_relief_7 : decode cX6_relief 7 = .ok (.ifCond .ne 12, 3) := by decide +kernel
theorem dX6_relief_10 : decode cX6_relief 10 = .ok (.iload_n 2, 1) := by decide +kernel
theorem dX6_relief_11 : decode cX6_relief 11 = .ok (.iconst 0, 1) := by decide +kernel
theorem dX6_relief_12 : decode cX6_relief 12 = .ok (.iconst 1, 1) := by decide +kernel
theorem dX6_relief_13 : decode cX6_relief 13 = .ok (.invokestatic 51, 3) := by decide +kernel
theorem dX6_relief_16 : decode cX6_relief 16 = .ok (.ifCond .eq 5, 3) := by decide +kernel
theorem dX6_relief_19 : decode cX6_relief 19 = .ok (.iconst (-1), 1) := by decide +kernel
theorem dX6_relief_20 : decode cX6_relief 20 = .ok (.ireturn, 1) := by decide +kernel
theorem dX6_relief_21 : decode cX6_relief 21 = .ok (.bipush (-4), 2) := by decide +kernel
theorem dX6_relief_23 : decode cX6_relief 23 = .ok (.istore_n 3, 1) := by decide +kernel
theorem dX6_relief_24 : decode cX6_relief 24 = .ok (.ldc 177, 2) := by decide +kernel
theorem dX6_relief_26 : decode cX6_relief 26 = .ok (.istore 4, 2) := by decide +kernel
theorem dX6_relief_28 : decode cX6_relief 28 = .ok (.iconst 0, 1) := by decide +kernel
theorem dX6_relief_29 : decode cX6_relief 29 = .ok (.istore 5, 2) := by decide +kernel
theorem dX6_relief_31 : decode cX6_relief 31 = .ok (.iload 5, 2) := by decide +kernel
theorem dX6_relief_33 : decode cX6_relief 33 = .ok (.aload_n 0, 1) := by decide +kernel
theorem dX6_relief_34 : decode cX6_relief 34 = .ok (.getfield 10, 3) := by decide +kernel
theorem dX6_relief_37 : decode cX6_relief 37 = .ok (.getfield 72, 3) := by decide +kernel
theorem dX6_relief_40 : decode cX6_relief 40 = .ok (.getfield 117, 3) := by decide +kernel
theorem dX6_relief_43 : decode cX6_relief 43 = .ok (.if_icmp .ge 60, 3) := by decide +kernel
theorem dX6_relief_46 : decode cX6_relief 46 = .ok (.aload_n 0, 1) := by decide +kernel
theorem dX6_relief_47 : decode cX6_relief 47 = .ok (.invokevirtual 162, 3) := by decide +kernel
theorem dX6_relief_50 : decode cX6_relief 50 = .ok (.aload_n 0, 1) := by decide +kernel
theorem dX6_relief_51 : decode cX6_relief 51 = .ok (.getfield 22, 3) := by decide +kernel
theorem dX6_relief_54 : decode cX6_relief 54 = .ok (.iload 5, 2) := by decide +kernel
theorem dX6_relief_56 : decode cX6_relief 56 = .ok (.invokevirtual 178, 3) := by decide +kernel
theorem dX6_relief_59 : decode cX6_relief 59 = .ok (.aload_n 0, 1) := by decide +kernel
theorem dX6_relief_60 : decode cX6_relief 60 = .ok (.getfield 22, 3) := by decide +kernel
theorem dX6_relief_63 : decode cX6_relief 63 = .ok (.invokevirtual 121, 3) := by decide +kernel
theorem dX6_relief_66 : decode cX6_relief 66 = .ok (.aload_n 0, 1) := by decide +kernel
theorem dX6_relief_67 : decode cX6_relief 67 = .ok (.getfield 10, 3) := by decide +kernel
theorem dX6_relief_70 : decode cX6_relief 70 = .ok (.getfield 55, 3) := by decide +kernel
theorem dX6_relief_73 : decode cX6_relief 73 = .ok (.if_icmp .gt 24, 3) := by decide +kernel
theorem dX6_relief_76 : decode cX6_relief 76 = .ok (.aload_n 0, 1) := by decide +kernel
theorem dX6_relief_77 : decode cX6_relief 77 = .ok (.iload_n 1, 1) := by decide +kernel
theorem dX6_relief_78 : decode cX6_relief 78 = .ok (.invokevirtual 165, 3) := by decide +kernel
theorem dX6_relief_81 : decode cX6_relief 81 = .ok (.istore 6, 2) := by decide +kernel
theorem dX6_relief_83 : decode cX6_relief 83 = .ok (.iload 6, 2) := by decide +kernel
theorem dX6_relief_85 : decode cX6_relief 85 = .ok (.iload 4, 2) := by decide +kernel
theorem dX6_relief_87 : decode cX6_relief 87 = .ok (.if_icmp .ge 10, 3) := by decide +kernel
theorem dX6_relief_90 : decode cX6_relief 90 = .ok (.iload 6, 2) := by decide +kernel
theorem dX6_relief_92 : decode cX6_relief 92 = .ok (.istore 4, 2) := by decide +kernel
theorem dX6_relief_94 : decode cX6_relief 94 = .ok (.iload 5, 2) := by decide +kernel
theorem dX6_relief_96 : decode cX6_relief 96 = .ok (.istore_n 3, 1) := by decide +kernel
theorem dX6_relief_97 : decode cX6_relief 97 = .ok (.iinc 5 1, 3) := by decide +kernel
theorem dX6_relief_100 : decode cX6_relief 100 = .ok (.goto (-69), 3) := by decide +kernel
theorem dX6_relief_103 : decode cX6_relief 103 = .ok (.iload_n 3, 1) := by decide +kernel
theorem dX6_relief_104 : decode cX6_relief 104 = .ok (.bipush (-4), 2) := by decide +kernel
theorem dX6_relief_106 : decode cX6_relief 106 = .ok (.if_icmp .eq 7, 3) := by decide +kernel
theorem dX6_relief_109 : decode cX6_relief 109 = .ok (.iload_n 2, 1) := by decide +kernel
theorem dX6_relief_110 : decode cX6_relief 110 = .ok (.ifCond .ne 7, 3) := by decide +kernel
theorem dX6_relief_113 : decode cX6_relief 113 = .ok (.iload_n 3, 1) := by decide +kernel
theorem dX6_relief_114 : decode cX6_relief 114 = .ok (.goto 5, 3) := by decide +kernel
theorem dX6_relief_117 : decode cX6_relief 117 = .ok (.iload 4, 2) := by decide +kernel
theorem dX6_relief_119 : decode cX6_relief 119 = .ok (.ireturn, 1) := by decide +kernel
set_option maxRecDepth 20000 in
theorem ggX6_share_X6_outside : GoodIn wsX6_share wsX6_outside := goodIn_r _ [11] (by decide +kernel) (by decide +kernel)
set_option maxRecDepth 20000 in
theorem gX6_share_X6_outside : GoodIn wsX6_share (va_wsS RX6 51 yX6_outside wsX6_outside) := goodIn_app (goodIn_of _ (by decide +kernel)) ggX6_share_X6_outside
set_option maxRecDepth 20000 in
theorem ggX6_share_X6_findBestParting : GoodIn wsX6_share wsX6_findBestParting := goodIn_r _ [15, 4, 1, 2, 3, 16, 17, 18, 5, 19, 20, 21, 22, 23, 24, 25, 26, 27, 28, 29, 30, 31, 10, 32, 33, 34, 35, 36, 37, 38, 39, 40, 41, 42, 43, 44, 45, 46, 47, 48, 49, 50, 51, 52, 53, 54, 55, 56, 57, 58, 59, 60, 61, 62, 63, 64, 65, 66, 67, 68, 69, 70, 71, 72, 73, 74, 75, 76, 77, 78, 79, 80, 81, 82, 83, 84, 85, 86, 87, 88, 89, 90, 91, 92, 93, 94, 95, 96, 97, 98, 99, 100, 101, 102, 103, 104, 105, 106, 107, 108, 109, 110, 111, 112, 113, 114, 115, 116, 117, 118, 119, 120, 121, 122, 123, 124, 125, 126, 127, 128, 129, 130, 131, 132, 133, 134, 135, 136, 137, 138, 139, 140, 141, 142, 143, 144, 145, 146, 147] (by decide +kernel) (by decide +kernel)
set_option maxRecDepth 20000 in
theorem gX6_share_X6_findBestParting : GoodIn wsX6_share (wsV RX6 181 RX6 yX6_findBestParting wsX6_findBestParting) := goodIn_app (goodIn_of _ (by decide +kernel)) ggX6_share_X6_findBestParting
theorem dX6_share_0 : decode cX6_share 0 = .ok (.iload_n 1, 1) := by decide +kernel
theorem dX6_share_1 : decode cX6_share 1 = .ok (.iconst 0, 1) := by decide +kernel
theorem dX6_share_2 : decode cX6_share 2 = .ok (.bipush 6, 2) := by decide +kernel
theorem dX6_share_4 : decode cX6_share 4 = .ok (.invokestatic 51, 3) := by decide +kernel
theorem dX6_share_7 : decode cX6_share 7 = .ok (.ifCond .ne 19, 3) := by decide +kernel
theorem dX6_share_10 : decode cX6_share 10 = .ok (.iload_n 2, 1) := by decide +kernel
theorem dX6_share_11 : decode cX6_share 11 = .ok (.iconst 1, 1) := by decide +kernel
theorem dX6_share_12 : decode cX6_share 12 = .ok (.bipush 20, 2) := by decide +kernel
theorem dX6_share_14 : decode cX6_share 14 = .ok (.invokestatic 51, 3) := by decide +kernel
theorem dX6_share_17 : decode cX6_share 17 = .ok (.ifCond .ne 9, 3) := by decide +kernel
theorem dX6_share_20 : decode cX6_share 20 = .ok (.iload_n 3, 1) := by decide +kernel
theorem dX6_share_21 : decode cX6_share 21 = .ok (.bipush (-2), 2) := by decide +kernel
theorem dX6_share_23 : decode cX6_share 23 = .ok (.if_icmp .ge 5, 3) := by decide +kernel
theorem dX6_share_26 : decode cX6_share 26 = .ok (.iconst (-1), 1) := by decide +kernel
theorem dX6_share_27 : decode cX6_share 27 = .ok (.ireturn, 1) := by decide +kernel
theorem dX6_share_28 : decode cX6_share 28 = .ok (.aload_n 0, 1) := by decide +kernel
theorem dX6_share_29 : decode cX6_share 29 = .ok (.getfield 10, 3) := by decide +kernel
theorem dX6_share_32 : decode cX6_share 32 = .ok (.getfield 72, 3) := by decide +kernel
theorem dX6_share_35 : decode cX6_share 35 = .ok (.getfield 117, 3) := by decide +kernel
theorem dX6_share_38 : decode cX6_share 38 = .ok (.ifCond .eq 17, 3) := by decide +kernel
theorem dX6_share_41 : decode cX6_share 41 = .ok (.iload_n 3, 1) := by decide +kernel
theorem dX6_share_42 : decode cX6_share 42 = .ok (.aload_n 0, 1) := by decide +kernel
theorem dX6_share_43 : decode cX6_share 43 = .ok (.getfield 10, 3) := by decide +kernel
theorem dX6_share_46 : decode cX6_share 46 = .ok (.getfield 72, 3) := by decide +kernel
theorem dX6_share_49 : decode cX6_share 49 = .ok (.getfield 117, 3) := by decide +kernel
theorem dX6_share_52 : decode cX6_share 52 = .ok (.if_icmp .lt 6, 3) := by decide +kernel
theorem dX6_share_55 : decode cX6_share 55 = .ok (.bipush (-4), 2) := by decide +kernel
theorem dX6_share_57 : decode cX6_share 57 = .ok (.ireturn, 1) := by decide +kernel
theorem dX6_share_58 : decode cX6_share 58 = .ok (.aload_n 0, 1) := by decide +kernel
theorem dX6_share_59 : decode cX6_share 59 = .ok (.iload_n 1, 1) := by decide +kernel
theorem dX6_share_60 : decode cX6_share 60 = .ok (.iload_n 2, 1) := by decide +kernel
theorem dX6_share_61 : decode cX6_share 61 = .ok (.invokevirtual 181, 3) := by decide +kernel
theorem dX6_share_64 : decode cX6_share 64 = .ok (.iload_n 3, 1) := by decide +kernel
theorem dX6_share_65 : decode cX6_share 65 = .ok (.lookupswitch 43 #[(-2, 35), (-1, 27)], 27) := by decide +kernel
theorem dX6_share_92 : decode cX6_share 92 = .ok (.aload_n 0, 1) := by decide +kernel
theorem dX6_share_93 : decode cX6_share 93 = .ok (.getfield 29, 3) := by decide +kernel
theorem dX6_share_96 : decode cX6_share 96 = .ok (.getfield 185, 3) := by decide +kernel
theorem dX6_share_99 : decode cX6_share 99 = .ok (.ireturn, 1) := by decide +kernel
theorem dX6_share_100 : decode cX6_share 100 = .ok (.aload_n 0, 1) := by decide +kernel
theorem dX6_share_101 : decode cX6_share 101 = .ok (.getfield 29, 3) := by decide +kernel
theorem dX6_share_104 : decode cX6_share 104 = .ok (.getfield 188, 3) := by decide +kernel
theorem dX6_share_107 : decode cX6_share 107 = .ok (.ireturn, 1) := by decide +kernel
theorem dX6_share_108 : decode cX6_share 108 = .ok (.aload_n 0, 1) := by decide +kernel
theorem dX6_share_109 : decode cX6_share 109 = .ok (.getfield 29, 3) := by decide +kernel
theorem dX6_share_112 : decode cX6_share 112 = .ok (.getfield 191, 3) := by decide +kernel
theorem dX6_share_115 : decode cX6_share 115 = .ok (.iload_n 3, 1) := by decide +kernel
theorem dX6_share_116 : decode cX6_share 116 = .ok (.iaload, 1) := by decide +kernel
theorem dX6_share_117 : decode cX6_share 117 = .ok (.ireturn, 1) := by decide +kernel
set_option maxRecDepth 20000 in
theorem ggX6_worst_X6_outside : GoodIn wsX6_worst wsX6_outside := goodIn_r _ [4] (by decide +kernel) (by decide +kernel)
set_option maxRecDepth 20000 in
theorem gX6_worst_X6_outside : GoodIn wsX6_worst (va_wsS RX6 51 yX6_outside wsX6_outside) := goodIn_app (goodIn_of _ (by decide +kernel)) ggX6_worst_X6_outside
set_option maxRecDepth 20000 in
theorem ggX6_worst_X6_startTrial : GoodIn wsX6_worst wsX6_startTrial := goodIn_r _ [8, 9, 10, 11, 12, 13, 14, 15, 16, 17, 18, 19, 20, 21, 22, 23, 24, 25, 26, 27, 28, 29, 30, 31, 32, 73, 74, 75, 76, 77, 78, 79, 80, 81, 82, 83, 84, 85, 86, 87, 88, 89, 90, 91, 92, 93] (by decide +kernel) (by decide +kernel)
set_option maxRecDepth 20000 in
theorem gX6_worst_X6_startTrial : GoodIn wsX6_worst (wsV RX6 162 RX6 yX6_startTrial wsX6_startTrial) := goodIn_app (goodIn_of _ (by decide +kernel)) ggX6_worst_X6_startTrial
set_option maxRecDepth 20000 in
theorem ggX6_worst_X6_yearOfTrial : GoodIn wsX6_worst wsX6_yearOfTrial := goodIn_r _ [36, 9, 10, 37, 38, 39, 40, 41, 42, 43, 44, 45, 46, 47, 48, 15, 49, 24, 50, 51, 52, 53, 18, 17, 54, 55, 56, 57, 25, 30, 58, 59, 60, 61, 31, 62, 63, 64, 65, 66, 67, 68, 69, 70, 71, 72, 73, 74, 75, 76, 77, 78, 79, 80, 81, 82, 83, 84, 85, 86, 87, 88, 89, 90, 91, 92, 93, 94, 95] (by decide +kernel) (by decide +kernel)
set_option maxRecDepth 20000 in
theorem gX6_worst_X6_yearOfTrial : GoodIn wsX6_worst (wsV RX6 168 RX6 yX6_yearOfTrial wsX6_yearOfTrial) := goodIn_app (goodIn_of _ (by decide +kernel)) ggX6_worst_X6_yearOfTrial
theorem dX6_worst_0 : decode cX6_worst 0 = .ok (.iload_n 1, 1) := by decide +kernel
theorem dX6_worst_1 : decode cX6_worst 1 = .ok (.iconst 0, 1) := by decide +kernel
theorem dX6_worst_2 : decode cX6_worst 2 = .ok (.iconst 1, 1) := by decide +kernel
theorem dX6_worst_3 : decode cX6_worst 3 = .ok (.invokestatic 51, 3) := by decide +kernel
theorem dX6_worst_6 : decode cX6_worst 6 = .ok (.ifCond .eq 5, 3) := by decide +kernel
theorem dX6_worst_9 : decode cX6_worst 9 = .ok (.iconst (-1), 1) := by decide +kernel
theorem dX6_worst_10 : decode cX6_worst 10 = .ok (.ireturn, 1) := by decide +kernel
theorem dX6_worst_11 : decode cX6_worst 11 = .ok (.bipush (-4), 2) := by decide +kernel
theorem dX6_worst_13 : decode cX6_worst 13 = .ok (.istore_n 2, 1) := by decide +kernel
theorem dX6_worst_14 : decode cX6_worst 14 = .ok (.iconst 0, 1) := by decide +kernel
theorem dX6_worst_15 : decode cX6_worst 15 = .ok (.istore_n 3, 1) := by decide +kernel
theorem dX6_worst_16 : decode cX6_worst 16 = .ok (.aload_n 0, 1) := by decide +kernel
theorem dX6_worst_17 : decode cX6_worst 17 = .ok (.invokevirtual 162, 3) := by decide +kernel
theorem dX6_worst_20 : decode cX6_worst 20 = .ok (.iconst 0, 1) := by decide +kernel
theorem dX6_worst_21 : decode cX6_worst 21 = .ok (.istore 4, 2) := by decide +kernel
theorem dX6_worst_23 : decode cX6_worst 23 = .ok (.iload 4, 2) := by decide +kernel
theorem dX6_worst_25 : decode cX6_worst 25 = .ok (.bipush 40, 2) := by decide +kernel
theorem dX6_worst_27 : decode cX6_worst 27 = .ok (.if_icmp .ge 27, 3) := by decide +kernel
theorem dX6_worst_30 : decode cX6_worst 30 = .ok (.aload_n 0, 1) := by decide +kernel
theorem dX6_worst_31 : decode cX6_worst 31 = .ok (.invokevirtual 168, 3) := by decide +kernel
theorem dX6_worst_34 : decode cX6_worst 34 = .ok (.istore 5, 2) := by decide +kernel
theorem dX6_worst_36 : decode cX6_worst 36 = .ok (.iload 5, 2) := by decide +kernel
theorem dX6_worst_38 : decode cX6_worst 38 = .ok (.iload_n 3, 1) := by decide +kernel
theorem dX6_worst_39 : decode cX6_worst 39 = .ok (.if_icmp .le 9, 3) := by decide +kernel
theorem dX6_worst_42 : decode cX6_worst 42 = .ok (.iload 5, 2) := by decide +kernel
theorem dX6_worst_44 : decode cX6_worst 44 = .ok (.istore_n 3, 1) := by decide +kernel
theorem dX6_worst_45 : decode cX6_worst 45 = .ok (.iload 4, 2) := by decide +kernel
theorem dX6_worst_47 : decode cX6_worst 47 = .ok (.istore_n 2, 1) := by decide +kernel
theorem dX6_worst_48 : decode cX6_worst 48 = .ok (.iinc 4 1, 3) := by decide +kernel
theorem dX6_worst_51 : decode cX6_worst 51 = .ok (.goto (-28), 3) := by decide +kernel
theorem dX6_worst_54 : decode cX6_worst 54 = .ok (.iload_n 2, 1) := by decide +kernel
theorem dX6_worst_55 : decode cX6_worst 55 = .ok (.bipush (-4), 2) := by decide +kernel
theorem dX6_worst_57 : decode cX6_worst 57 = .ok (.if_icmp .eq 7, 3) := by decide +kernel
theorem dX6_worst_60 : decode cX6_worst 60 = .ok (.iload_n 1, 1) := by decide +kernel
theorem dX6_worst_61 : decode cX6_worst 61 = .ok (.ifCond .ne 7, 3) := by decide +kernel
theorem dX6_worst_64 : decode cX6_worst 64 = .ok (.iload_n 2, 1) := by decide +kernel
theorem dX6_worst_65 : decode cX6_worst 65 = .ok (.goto 4, 3) := by decide +kernel
theorem dX6_worst_68 : decode cX6_worst 68 = .ok (.iload_n 3, 1) := by decide +kernel
theorem dX6_worst_69 : decode cX6_worst 69 = .ok (.ireturn, 1) := by decide +kernel
set_option maxRecDepth 20000 in
theorem ggX6_hot_X6_outside : GoodIn wsX6_hot wsX6_outside := goodIn_r _ [7] (by decide +kernel) (by decide +kernel)
set_option maxRecDepth 20000 in
theorem gX6_hot_X6_outside : GoodIn wsX6_hot (va_wsS RX6 51 yX6_outside wsX6_outside) := goodIn_app (goodIn_of _ (by decide +kernel)) ggX6_hot_X6_outside
set_option maxRecDepth 20000 in
theorem ggX6_hot_X0_stopsFire : GoodIn wsX6_hot wsX0_stopsFire := goodIn_r _ [12, 13, 32, 33, 34, 35, 36, 37, 38, 39] (by decide +kernel) (by decide +kernel)
set_option maxRecDepth 20000 in
theorem gX6_hot_X0_stopsFire : GoodIn wsX6_hot (wsV RX6 194 RX0 yX0_stopsFire wsX0_stopsFire) := goodIn_app (goodIn_of _ (by decide +kernel)) ggX6_hot_X0_stopsFire
set_option maxRecDepth 20000 in
theorem ggX6_hot_X0_heavinessOf : GoodIn wsX6_hot wsX0_heavinessOf := goodIn_r _ [17, 18, 13, 32, 33, 34, 35, 36, 37, 38, 39] (by decide +kernel) (by decide +kernel)
set_option maxRecDepth 20000 in
theorem gX6_hot_X0_heavinessOf : GoodIn wsX6_hot (wsV RX6 197 RX0 yX0_heavinessOf wsX0_heavinessOf) := goodIn_app (goodIn_of _ (by decide +kernel)) ggX6_hot_X0_heavinessOf
theorem dX6_hot_0 : decode cX6_hot 0 = .ok (.aload_n 0, 1) := by decide +kernel
theorem dX6_hot_1 : decode cX6_hot 1 = .ok (.getfield 10, 3) := by decide +kernel
theorem dX6_hot_4 : decode cX6_hot 4 = .ok (.getfield 72, 3) := by decide +kernel
theorem dX6_hot_7 : decode cX6_hot 7 = .ok (.astore_n 2, 1) := by decide +kernel
theorem dX6_hot_8 : decode cX6_hot 8 = .ok (.iload_n 1, 1) := by decide +kernel
theorem dX6_hot_9 : decode cX6_hot 9 = .ok (.iconst 1, 1) := by decide +kernel
theorem dX6_hot_10 : decode cX6_hot 10 = .ok (.aload_n 2, 1) := by decide +kernel
theorem dX6_hot_11 : decode cX6_hot 11 = .ok (.getfield 117, 3) := by decide +kernel
theorem dX6_hot_14 : decode cX6_hot 14 = .ok (.invokestatic 51, 3) := by decide +kernel
theorem dX6_hot_17 : decode cX6_hot 17 = .ok (.ifCond .eq 5, 3) := by decide +kernel
theorem dX6_hot_20 : decode cX6_hot 20 = .ok (.iconst (-1), 1) := by decide +kernel
theorem dX6_hot_21 : decode cX6_hot 21 = .ok (.ireturn, 1) := by decide +kernel
theorem dX6_hot_22 : decode cX6_hot 22 = .ok (.iconst 0, 1) := by decide +kernel
theorem dX6_hot_23 : decode cX6_hot 23 = .ok (.istore_n 3, 1) := by decide +kernel
theorem dX6_hot_24 : decode cX6_hot 24 = .ok (.aload_n 2, 1) := by decide +kernel
theorem dX6_hot_25 : decode cX6_hot 25 = .ok (.getfield 117, 3) := by decide +kernel
theorem dX6_hot_28 : decode cX6_hot 28 = .ok (.iconst 1, 1) := by decide +kernel
theorem dX6_hot_29 : decode cX6_hot 29 = .ok (.isub, 1) := by decide +kernel
theorem dX6_hot_30 : decode cX6_hot 30 = .ok (.istore 4, 2) := by decide +kernel
theorem dX6_hot_32 : decode cX6_hot 32 = .ok (.iload 4, 2) := by decide +kernel
theorem dX6_hot_34 : decode cX6_hot 34 = .ok (.aload_n 2, 1) := by decide +kernel
theorem dX6_hot_35 : decode cX6_hot 35 = .ok (.getfield 117, 3) := by decide +kernel
theorem dX6_hot_38 : decode cX6_hot 38 = .ok (.iload_n 1, 1) := by decide +kernel
theorem dX6_hot_39 : decode cX6_hot 39 = .ok (.isub, 1) := by decide +kernel
theorem dX6_hot_40 : decode cX6_hot 40 = .ok (.if_icmp .lt 30, 3) := by decide +kernel
theorem dX6_hot_43 : decode cX6_hot 43 = .ok (.aload_n 2, 1) := by decide +kernel
theorem dX6_hot_44 : decode cX6_hot 44 = .ok (.iload 4, 2) := by decide +kernel
theorem dX6_hot_46 : decode cX6_hot 46 = .ok (.invokevirtual 194, 3) := by decide +kernel
theorem dX6_hot_49 : decode cX6_hot 49 = .ok (.ifCond .eq 6, 3) := by decide +kernel
theorem dX6_hot_52 : decode cX6_hot 52 = .ok (.bipush (-4), 2) := by decide +kernel
theorem dX6_hot_54 : decode cX6_hot 54 = .ok (.ireturn, 1) := by decide +kernel
theorem dX6_hot_55 : decode cX6_hot 55 = .ok (.iload_n 3, 1) := by decide +kernel
theorem dX6_hot_56 : decode cX6_hot 56 = .ok (.aload_n 2, 1) := by decide +kernel
theorem dX6_hot_57 : decode cX6_hot 57 = .ok (.iload 4, 2) := by decide +kernel
theorem dX6_hot_59 : decode cX6_hot 59 = .ok (.invokevirtual 197, 3) := by decide +kernel
theorem dX6_hot_62 : decode cX6_hot 62 = .ok (.iadd, 1) := by decide +kernel
theorem dX6_hot_63 : decode cX6_hot 63 = .ok (.istore_n 3, 1) := by decide +kernel
theorem dX6_hot_64 : decode cX6_hot 64 = .ok (.iinc 4 (-1), 3) := by decide +kernel
theorem dX6_hot_67 : decode cX6_hot 67 = .ok (.goto (-35), 3) := by decide +kernel
theorem dX6_hot_70 : decode cX6_hot 70 = .ok (.iload_n 3, 1) := by decide +kernel
theorem dX6_hot_71 : decode cX6_hot 71 = .ok (.sipush 999, 3) := by decide +kernel
theorem dX6_hot_74 : decode cX6_hot 74 = .ok (.if_icmp .gt 7, 3) := by decide +kernel
theorem dX6_hot_77 : decode cX6_hot 77 = .ok (.iload_n 3, 1) := by decide +kernel
theorem dX6_hot_78 : decode cX6_hot 78 = .ok (.goto 5, 3) := by decide +kernel
theorem dX6_hot_81 : decode cX6_hot 81 = .ok (.bipush (-4), 2) := by decide +kernel
theorem dX6_hot_83 : decode cX6_hot 83 = .ok (.ireturn, 1) := by decide +kernel
set_option maxRecDepth 20000 in
theorem ggX6_bursts_X6_outside : GoodIn wsX6_bursts wsX6_outside := goodIn_r _ [4] (by decide +kernel) (by decide +kernel)
set_option maxRecDepth 20000 in
theorem gX6_bursts_X6_outside : GoodIn wsX6_bursts (va_wsS RX6 51 yX6_outside wsX6_outside) := goodIn_app (goodIn_of _ (by decide +kernel)) ggX6_bursts_X6_outside
set_option maxRecDepth 20000 in
theorem ggX6_bursts_X6_staysDry : GoodIn wsX6_bursts wsX6_staysDry := goodIn_r _ [8, 9, 10, 11, 12, 13, 14, 15, 3, 16, 17, 18, 19, 20, 21, 22, 23, 24, 25, 26, 27, 28, 29, 30, 31, 32, 33, 34, 35, 36, 37, 38, 39, 40, 41, 42, 43, 44, 45, 46, 47, 48, 49, 50, 51, 52, 53, 54, 55, 56, 57, 58, 59, 60, 61, 62, 63, 64, 65, 66, 67, 68, 69, 70, 71, 72, 87, 88, 89, 90, 91, 92, 93, 94, 95, 96, 97, 98, 99, 100, 101, 102, 103, 104, 105, 106, 107, 108, 109] (by decide +kernel) (by decide +kernel)
set_option maxRecDepth 20000 in
theorem gX6_bursts_X6_staysDry : GoodIn wsX6_bursts (wsV RX6 200 RX6 yX6_staysDry wsX6_staysDry) := goodIn_app (goodIn_of _ (by decide +kernel)) ggX6_bursts_X6_staysDry
set_option maxRecDepth 20000 in
theorem ggX6_bursts_J6_bitCount_0f7a4 : GoodIn wsX6_bursts wsJ6_bitCount_0f7a4 := goodIn_r _ [76, 77, 78, 79] (by decide +kernel) (by decide +kernel)
set_option maxRecDepth 20000 in
theorem gX6_bursts_J6_bitCount_0f7a4 : GoodIn wsX6_bursts (va_wsS RX6 204 yJ6_bitCount_0f7a4 wsJ6_bitCount_0f7a4) := goodIn_app (goodIn_of _ (by decide +kernel)) ggX6_bursts_J6_bitCount_0f7a4
set_option maxRecDepth 20000 in
theorem ggX6_bursts_X6_power : GoodIn wsX6_bursts wsX6_power := goodIn_r _ [82] (by decide +kernel) (by decide +kernel)
set_option maxRecDepth 20000 in
theorem gX6_bursts_X6_power : GoodIn wsX6_bursts (va_wsS RX6 209 yX6_power wsX6_power) := goodIn_app (goodIn_of _ (by decide +kernel)) ggX6_bursts_X6_power
set_option maxRecDepth 20000 in
theorem ggX6_bursts_X6_greatestDivisor : GoodIn wsX6_bursts wsX6_greatestDivisor := goodIn_r _ [85, 86, 67, 52, 68] (by decide +kernel) (by decide +kernel)
set_option maxRecDepth 20000 in
theorem gX6_bursts_X6_greatestDivisor : GoodIn wsX6_bursts (va_wsS RX6 212 yX6_greatestDivisor wsX6_greatestDivisor) := goodIn_app (goodIn_of _ (by decide +kernel)) ggX6_bursts_X6_greatestDivisor
theorem dX6_bursts_0 : decode cX6_bursts 0 = .ok (.iload_n 1, 1) := by decide +kernel
theorem dX6_bursts_1 : decode cX6_bursts 1 = .ok (.iconst 0, 1) := by decide +kernel
theorem dX6_bursts_2 : decode cX6_bursts 2 = .ok (.bipush 6, 2) := by decide +kernel
theorem dX6_bursts_4 : decode cX6_bursts 4 = .ok (.invokestatic 51, 3) := by decide +kernel
theorem dX6_bursts_7 : decode cX6_bursts 7 = .ok (.ifCond .ne 22, 3) := by decide +kernel
theorem dX6_bursts_10 : decode cX6_bursts 10 = .ok (.iload_n 2, 1) := by decide +kernel
theorem dX6_bursts_11 : decode cX6_bursts 11 = .ok (.iconst 0, 1) := by decide +kernel
theorem dX6_bursts_12 : decode cX6_bursts 12 = .ok (.bipush 10, 2) := by decide +kernel
theorem dX6_bursts_14 : decode cX6_bursts 14 = .ok (.invokestatic 51, 3) := by decide +kernel
theorem dX6_bursts_17 : decode cX6_bursts 17 = .ok (.ifCond .ne 12, 3) := by decide +kernel
theorem dX6_bursts_20 : decode cX6_bursts 20 = .ok (.iload_n 3, 1) := by decide +kernel
theorem dX6_bursts_21 : decode cX6_bursts 21 = .ok (.iconst 0, 1) := by decide +kernel
theorem dX6_bursts_22 : decode cX6_bursts 22 = .ok (.iconst 1, 1) := by decide +kernel
theorem dX6_bursts_23 : decode cX6_bursts 23 = .ok (.invokestatic 51, 3) := by decide +kernel
theorem dX6_bursts_26 : decode cX6_bursts 26 = .ok (.ifCond .eq 5, 3) := by decide +kernel
theorem dX6_bursts_29 : decode cX6_bursts 29 = .ok (.iconst (-1), 1) := by decide +kernel
theorem dX6_bursts_30 : decode cX6_bursts 30 = .ok (.ireturn, 1) := by decide +kernel
theorem dX6_bursts_31 : decode cX6_bursts 31 = .ok (.iconst 0, 1) := by decide +kernel
theorem dX6_bursts_32 : decode cX6_bursts 32 = .ok (.istore 4, 2) := by decide +kernel
theorem dX6_bursts_34 : decode cX6_bursts 34 = .ok (.iconst 0, 1) := by decide +kernel
theorem dX6_bursts_35 : decode cX6_bursts 35 = .ok (.istore 5, 2) := by decide +kernel
theorem dX6_bursts_37 : decode cX6_bursts 37 = .ok (.iload 5, 2) := by decide +kernel
theorem dX6_bursts_39 : decode cX6_bursts 39 = .ok (.iconst 1, 1) := by decide +kernel
theorem dX6_bursts_40 : decode cX6_bursts 40 = .ok (.iload_n 1, 1) := by decide +kernel
theorem dX6_bursts_41 : decode cX6_bursts 41 = .ok (.ishl, 1) := by decide +kernel
theorem dX6_bursts_42 : decode cX6_bursts 42 = .ok (.if_icmp .ge 49, 3) := by decide +kernel
theorem dX6_bursts_45 : decode cX6_bursts 45 = .ok (.aload_n 0, 1) := by decide +kernel
theorem dX6_bursts_46 : decode cX6_bursts 46 = .ok (.iload_n 1, 1) := by decide +kernel
theorem dX6_bursts_47 : decode cX6_bursts 47 = .ok (.iload 5, 2) := by decide +kernel
theorem dX6_bursts_49 : decode cX6_bursts 49 = .ok (.invokevirtual 200, 3) := by decide +kernel
theorem dX6_bursts_52 : decode cX6_bursts 52 = .ok (.ifCond .eq 33, 3) := by decide +kernel
theorem dX6_bursts_55 : decode cX6_bursts 55 = .ok (.iload 5, 2) := by decide +kernel
theorem dX6_bursts_57 : decode cX6_bursts 57 = .ok (.invokestatic 204, 3) := by decide +kernel
theorem dX6_bursts_60 : decode cX6_bursts 60 = .ok (.istore 6, 2) := by decide +kernel
theorem dX6_bursts_62 : decode cX6_bursts 62 = .ok (.iload 4, 2) := by decide +kernel
theorem dX6_bursts_64 : decode cX6_bursts 64 = .ok (.iload_n 2, 1) := by decide +kernel
theorem dX6_bursts_65 : decode cX6_bursts 65 = .ok (.iload 6, 2) := by decide +kernel
theorem dX6_bursts_67 : decode cX6_bursts 67 = .ok (.invokestatic 209, 3) := by decide +kernel
theorem dX6_bursts_70 : decode cX6_bursts 70 = .ok (.bipush 10, 2) := by decide +kernel
theorem dX6_bursts_72 : decode cX6_bursts 72 = .ok (.iload_n 2, 1) := by decide +kernel
theorem dX6_bursts_73 : decode cX6_bursts 73 = .ok (.isub, 1) := by decide +kernel
theorem dX6_bursts_74 : decode cX6_bursts 74 = .ok (.iload_n 1, 1) := by decide +kernel
theorem dX6_bursts_75 : decode cX6_bursts 75 = .ok (.iload 6, 2) := by decide +kernel
theorem dX6_bursts_77 : decode cX6_bursts 77 = .ok (.isub, 1) := by decide +kernel
theorem dX6_bursts_78 : decode cX6_bursts 78 = .ok (.invokestatic 209, 3) := by decide +kernel
theorem dX6_bursts_81 : decode cX6_bursts 81 = .ok (.imul, 1) := by decide +kernel
theorem dX6_bursts_82 : decode cX6_bursts 82 = .ok (.iadd, 1) := by decide +kernel
theorem dX6_bursts_83 : decode cX6_bursts 83 = .ok (.istore 4, 2) := by decide +kernel
theorem dX6_bursts_85 : decode cX6_bursts 85 = .ok (.iinc 5 1, 3) := by decide +kernel
theorem dX6_bursts_88 : decode cX6_bursts 88 = .ok (.goto (-51), 3) := by decide +kernel
theorem dX6_bursts_91 : decode cX6_bursts 91 = .ok (.bipush 10, 2) := by decide +kernel
theorem dX6_bursts_93 : decode cX6_bursts 93 = .ok (.iload_n 1, 1) := by decide +kernel
theorem dX6_bursts_94 : decode cX6_bursts 94 = .ok (.invokestatic 209, 3) := by decide +kernel
theorem dX6_bursts_97 : decode cX6_bursts 97 = .ok (.istore 5, 2) := by decide +kernel
theorem dX6_bursts_99 : decode cX6_bursts 99 = .ok (.iload 4, 2) := by decide +kernel
theorem dX6_bursts_101 : decode cX6_bursts 101 = .ok (.iload 5, 2) := by decide +kernel
theorem dX6_bursts_103 : decode cX6_bursts 103 = .ok (.invokestatic 212, 3) := by decide +kernel
theorem dX6_bursts_106 : decode cX6_bursts 106 = .ok (.istore 6, 2) := by decide +kernel
theorem dX6_bursts_108 : decode cX6_bursts 108 = .ok (.iload_n 3, 1) := by decide +kernel
theorem dX6_bursts_109 : decode cX6_bursts 109 = .ok (.ifCond .ne 8, 3) := by decide +kernel
theorem dX6_bursts_112 : decode cX6_bursts 112 = .ok (.iload 4, 2) := by decide +kernel
theorem dX6_bursts_114 : decode cX6_bursts 114 = .ok (.goto 5, 3) := by decide +kernel
theorem dX6_bursts_117 : decode cX6_bursts 117 = .ok (.iload 5, 2) := by decide +kernel
theorem dX6_bursts_119 : decode cX6_bursts 119 = .ok (.iload 6, 2) := by decide +kernel
theorem dX6_bursts_121 : decode cX6_bursts 121 = .ok (.idiv, 1) := by decide +kernel
theorem dX6_bursts_122 : decode cX6_bursts 122 = .ok (.ireturn, 1) := by decide +kernel
set_option maxRecDepth 20000 in
theorem ggX6_image_X1_become : GoodIn wsX6_image wsX1_become := goodIn_r _ [8, 9, 10, 11, 12, 13, 14, 15, 16, 17, 18, 19, 20, 21, 22, 23, 24, 25, 26, 27, 28, 29, 30, 31, 32, 33, 34, 35, 36, 37, 38, 39, 40, 41, 42, 43, 51, 52, 53, 54, 55, 56, 57, 58, 59, 60, 61, 62, 63, 64, 65, 66] (by decide +kernel) (by decide +kernel)
set_option maxRecDepth 20000 in
theorem gX6_image_X1_become : GoodIn wsX6_image (wsV RX6 215 RX1 yX1_become wsX1_become) := goodIn_app (goodIn_of _ (by decide +kernel)) ggX6_image_X1_become
theorem dX6_image_0 : decode cX6_image 0 = .ok (.aload_n 0, 1) := by decide +kernel
theorem dX6_image_1 : decode cX6_image 1 = .ok (.getfield 16, 3) := by decide +kernel
theorem dX6_image_4 : decode cX6_image 4 = .ok (.aload_n 0, 1) := by decide +kernel
theorem dX6_image_5 : decode cX6_image 5 = .ok (.getfield 10, 3) := by decide +kernel
theorem dX6_image_8 : decode cX6_image 8 = .ok (.invokevirtual 215, 3) := by decide +kernel
theorem dX6_image_11 : decode cX6_image 11 = .ok (.aload_n 0, 1) := by decide +kernel
theorem dX6_image_12 : decode cX6_image 12 = .ok (.iconst 1, 1) := by decide +kernel
theorem dX6_image_13 : decode cX6_image 13 = .ok (.putfield 46, 3) := by decide +kernel
theorem dX6_image_16 : decode cX6_image 16 = .ok (.iconst 1, 1) := by decide +kernel
theorem dX6_image_17 : decode cX6_image 17 = .ok (.ireturn, 1) := by decide +kernel
set_option maxRecDepth 20000 in
theorem ggX6_restore_X1_become : GoodIn wsX6_restore wsX1_become := goodIn_r _ [8, 9, 10, 11, 12, 13, 14, 15, 16, 17, 18, 19, 20, 21, 22, 23, 24, 25, 26, 27, 28, 29, 30, 31, 32, 33, 34, 35, 36, 37, 38, 39, 40, 41, 42, 43, 51, 52, 53, 54, 55, 56, 57, 58, 59, 60, 61, 62, 63, 64, 65, 66] (by decide +kernel) (by decide +kernel)
set_option maxRecDepth 20000 in
theorem gX6_restore_X1_become : GoodIn wsX6_restore (wsV RX6 215 RX1 yX1_become wsX1_become) := goodIn_app (goodIn_of _ (by decide +kernel)) ggX6_restore_X1_become
theorem dX6_restore_0 : decode cX6_restore 0 = .ok (.aload_n 0, 1) := by decide +kernel
theorem dX6_restore_1 : decode cX6_restore 1 = .ok (.getfield 46, 3) := by decide +kernel
theorem dX6_restore_4 : decode cX6_restore 4 = .ok (.ifCond .ne 6, 3) := by decide +kernel
theorem dX6_restore_7 : decode cX6_restore 7 = .ok (.bipush (-4), 2) := by decide +kernel
theorem dX6_restore_9 : decode cX6_restore 9 = .ok (.ireturn, 1) := by decide +kernel
theorem dX6_restore_10 : decode cX6_restore 10 = .ok (.aload_n 0, 1) := by decide +kernel
theorem dX6_restore_11 : decode cX6_restore 11 = .ok (.getfield 10, 3) := by decide +kernel
theorem dX6_restore_14 : decode cX6_restore 14 = .ok (.aload_n 0, 1) := by decide +kernel
theorem dX6_restore_15 : decode cX6_restore 15 = .ok (.getfield 16, 3) := by decide +kernel
theorem dX6_restore_18 : decode cX6_restore 18 = .ok (.invokevirtual 215, 3) := by decide +kernel
theorem dX6_restore_21 : decode cX6_restore 21 = .ok (.iconst 1, 1) := by decide +kernel
theorem dX6_restore_22 : decode cX6_restore 22 = .ok (.ireturn, 1) := by decide +kernel
set_option maxRecDepth 20000 in
theorem ggX6_stains_X0_has : GoodIn wsX6_stains wsX0_has := goodIn_r _ [8, 9, 124, 125, 126, 127, 128, 129, 130, 131] (by decide +kernel) (by decide +kernel)
set_option maxRecDepth 20000 in
theorem gX6_stains_X0_has : GoodIn wsX6_stains (wsV RX6 75 RX0 yX0_has wsX0_has) := goodIn_app (goodIn_of _ (by decide +kernel)) ggX6_stains_X0_has
set_option maxRecDepth 20000 in
theorem ggX6_stains_X6_isSheet : GoodIn wsX6_stains wsX6_isSheet := goodIn_r _ [13, 14, 15, 12, 16] (by decide +kernel) (by decide +kernel)
set_option maxRecDepth 20000 in
theorem gX6_stains_X6_isSheet : GoodIn wsX6_stains (va_wsS RX6 219 yX6_isSheet wsX6_isSheet) := goodIn_app (goodIn_of _ (by decide +kernel)) ggX6_stains_X6_isSheet
set_option maxRecDepth 20000 in
theorem ggX6_stains_X6_isLane : GoodIn wsX6_stains wsX6_isLane := goodIn_r _ [19, 14, 15, 12, 16] (by decide +kernel) (by decide +kernel)
set_option maxRecDepth 20000 in
theorem gX6_stains_X6_isLane : GoodIn wsX6_stains (va_wsS RX6 222 yX6_isLane wsX6_isLane) := goodIn_app (goodIn_of _ (by decide +kernel)) ggX6_stains_X6_isLane
set_option maxRecDepth 20000 in
theorem ggX6_stains_X6_outside : GoodIn wsX6_stains wsX6_outside := goodIn_r _ [16] (by decide +kernel) (by decide +kernel)
set_option maxRecDepth 20000 in
theorem gX6_stains_X6_outside : GoodIn wsX6_stains (va_wsS RX6 51 yX6_outside wsX6_outside) := goodIn_app (goodIn_of _ (by decide +kernel)) ggX6_stains_X6_outside
set_option maxRecDepth 20000 in
theorem ggX6_stains_X3_refuse : GoodIn wsX6_stains wsX3_refuse := goodIn_r _ [24, 25, 26, 27, 28, 29, 23, 30, 31, 132, 133, 134, 135] (by decide +kernel) (by decide +kernel)
set_option maxRecDepth 20000 in
theorem gX6_stains_X3_refuse : GoodIn wsX6_stains (wsV RX6 225 RX3 yX3_refuse wsX3_refuse) := goodIn_app (goodIn_of _ (by decide +kernel)) ggX6_stains_X3_refuse
set_option maxRecDepth 20000 in
theorem ggX6_stains_X6_kindsThatFit : GoodIn wsX6_stains wsX6_kindsThatFit := goodIn_r _ [35, 36, 37, 38, 39, 40, 12, 41, 1, 2, 42, 43, 44, 7, 45, 46, 47, 48, 49, 50, 51, 52, 9, 53, 54, 55, 56, 57, 58, 59, 60, 61, 62, 63, 64, 65, 66, 67, 68, 69, 70, 71, 72, 73, 74, 75, 76, 77, 78, 79, 80, 81, 82, 83, 84, 85, 86, 87, 88, 89, 90, 91, 92, 93, 94, 95, 96, 97, 98, 99, 100, 101, 102, 103, 104, 105, 111, 112, 113, 114, 115, 116, 117, 124, 125, 126, 127, 128, 129, 130, 131, 118, 119, 120, 121, 122, 123, 132, 133, 134, 135, 136, 137] (by decide +kernel) (by decide +kernel)
set_option maxRecDepth 20000 in
theorem gX6_stains_X6_kindsThatFit : GoodIn wsX6_stains (wsV RX6 229 RX6 yX6_kindsThatFit wsX6_kindsThatFit) := goodIn_app (goodIn_of _ (by decide +kernel)) ggX6_stains_X6_kindsThatFit
set_option maxRecDepth 20000 in
theorem ggX6_stains_X6_thicksThatFit : GoodIn wsX6_stains wsX6_thicksThatFit := goodIn_r _ [109, 36, 110, 38, 39, 40, 12, 41, 1, 2, 42, 43, 44, 7, 45, 46, 47, 48, 49, 50, 51, 52, 9, 53, 54, 55, 56, 57, 58, 59, 60, 61, 62, 63, 64, 65, 66, 67, 68, 69, 70, 71, 72, 73, 74, 75, 76, 77, 78, 79, 80, 81, 82, 83, 84, 85, 86, 87, 88, 89, 90, 91, 92, 93, 94, 95, 96, 97, 98, 99, 100, 101, 102, 103, 104, 105, 111, 112, 113, 114, 115, 116, 117, 124, 125, 126, 127, 128, 129, 130, 131, 118, 119, 120, 121, 122, 123, 132, 133, 134, 135, 136, 137] (by decide +kernel) (by decide +kernel)
set_option maxRecDepth 20000 in
theorem gX6_stains_X6_thicksThatFit : GoodIn wsX6_stains (wsV RX6 233 RX6 yX6_thicksThatFit wsX6_thicksThatFit) := goodIn_app (goodIn_of _ (by decide +kernel)) ggX6_stains_X6_thicksThatFit
theorem dX6_stains_0 : decode cX6_stains 0 = .ok (.aload_n 0, 1) := by decide +kernel
theorem dX6_stains_1 : decode cX6_stains 1 = .ok (.getfield 10, 3) := by decide +kernel
theorem dX6_stains_4 : decode cX6_stains 4 = .ok (.getfield 72, 3) := by decide +kernel
theorem dX6_stains_7 : decode cX6_stains 7 = .ok (.iload_n 1, 1) := by decide +kernel
theorem dX6_stains_8 : decode cX6_stains 8 = .ok (.invokevirtual 75, 3) := by decide +kernel
theorem dX6_stains_11 : decode cX6_stains 11 = .ok (.ifCond .eq 38, 3) := by decide +kernel
theorem dX6_stains_14 : decode cX6_stains 14 = .ok (.iload_n 2, 1) := by decide +kernel
theorem dX6_stains_15 : decode cX6_stains 15 = .ok (.invokestatic 219, 3) := by decide +kernel
theorem dX6_stains_18 : decode cX6_stains 18 = .ok (.ifCond .eq 31, 3) := by decide +kernel
theorem dX6_stains_21 : decode cX6_stains 21 = .ok (.iload_n 3, 1) := by decide +kernel
theorem dX6_stains_22 : decode cX6_stains 22 = .ok (.invokestatic 222, 3) := by decide +kernel
theorem dX6_stains_25 : decode cX6_stains 25 = .ok (.ifCond .eq 24, 3) := by decide +kernel
theorem dX6_stains_28 : decode cX6_stains 28 = .ok (.iload 5, 2) := by decide +kernel
theorem dX6_stains_30 : decode cX6_stains 30 = .ok (.iconst 1, 1) := by decide +kernel
theorem dX6_stains_31 : decode cX6_stains 31 = .ok (.bipush 8, 2) := by decide +kernel
theorem dX6_stains_33 : decode cX6_stains 33 = .ok (.invokestatic 51, 3) := by decide +kernel
theorem dX6_stains_36 : decode cX6_stains 36 = .ok (.ifCond .ne 13, 3) := by decide +kernel
theorem dX6_stains_39 : decode cX6_stains 39 = .ok (.iload 6, 2) := by decide +kernel
theorem dX6_stains_41 : decode cX6_stains 41 = .ok (.iconst 0, 1) := by decide +kernel
theorem dX6_stains_42 : decode cX6_stains 42 = .ok (.iconst 1, 1) := by decide +kernel
theorem dX6_stains_43 : decode cX6_stains 43 = .ok (.invokestatic 51, 3) := by decide +kernel
theorem dX6_stains_46 : decode cX6_stains 46 = .ok (.ifCond .eq 5, 3) := by decide +kernel
theorem dX6_stains_49 : decode cX6_stains 49 = .ok (.iconst (-1), 1) := by decide +kernel
theorem dX6_stains_50 : decode cX6_stains 50 = .ok (.ireturn, 1) := by decide +kernel
theorem dX6_stains_51 : decode cX6_stains 51 = .ok (.aload_n 0, 1) := by decide +kernel
theorem dX6_stains_52 : decode cX6_stains 52 = .ok (.getfield 42, 3) := by decide +kernel
theorem dX6_stains_55 : decode cX6_stains 55 = .ok (.iload_n 2, 1) := by decide +kernel
theorem dX6_stains_56 : decode cX6_stains 56 = .ok (.aaload, 1) := by decide +kernel
theorem dX6_stains_57 : decode cX6_stains 57 = .ok (.iload_n 3, 1) := by decide +kernel
theorem dX6_stains_58 : decode cX6_stains 58 = .ok (.iload 4, 2) := by decide +kernel
theorem dX6_stains_60 : decode cX6_stains 60 = .ok (.iload 5, 2) := by decide +kernel
theorem dX6_stains_62 : decode cX6_stains 62 = .ok (.invokevirtual 225, 3) := by decide +kernel
theorem dX6_stains_65 : decode cX6_stains 65 = .ok (.istore 7, 2) := by decide +kernel
theorem dX6_stains_67 : decode cX6_stains 67 = .ok (.iload 7, 2) := by decide +kernel
theorem dX6_stains_69 : decode cX6_stains 69 = .ok (.ifCond .ge 6, 3) := by decide +kernel
theorem dX6_stains_72 : decode cX6_stains 72 = .ok (.iload 7, 2) := by decide +kernel
theorem dX6_stains_74 : decode cX6_stains 74 = .ok (.ireturn, 1) := by decide +kernel
theorem dX6_stains_75 : decode cX6_stains 75 = .ok (.iload 6, 2) := by decide +kernel
theorem dX6_stains_77 : decode cX6_stains 77 = .ok (.ifCond .ne 21, 3) := by decide +kernel
theorem dX6_stains_80 : decode cX6_stains 80 = .ok (.aload_n 0, 1) := by decide +kernel
theorem dX6_stains_81 : decode cX6_stains 81 = .ok (.iload_n 1, 1) := by decide +kernel
theorem dX6_stains_82 : decode cX6_stains 82 = .ok (.aload_n 0, 1) := by decide +kernel
theorem dX6_stains_83 : decode cX6_stains 83 = .ok (.getfield 42, 3) := by decide +kernel
theorem dX6_stains_86 : decode cX6_stains 86 = .ok (.iload_n 2, 1) := by decide +kernel
theorem dX6_stains_87 : decode cX6_stains 87 = .ok (.aaload, 1) := by decide +kernel
theorem dX6_stains_88 : decode cX6_stains 88 = .ok (.iload 4, 2) := by decide +kernel
theorem dX6_stains_90 : decode cX6_stains 90 = .ok (.iload 5, 2) := by decide +kernel
theorem dX6_stains_92 : decode cX6_stains 92 = .ok (.invokevirtual 229, 3) := by decide +kernel
theorem dX6_stains_95 : decode cX6_stains 95 = .ok (.goto 18, 3) := by decide +kernel
theorem dX6_stains_98 : decode cX6_stains 98 = .ok (.aload_n 0, 1) := by decide +kernel
theorem dX6_stains_99 : decode cX6_stains 99 = .ok (.iload_n 1, 1) := by decide +kernel
theorem dX6_stains_100 : decode cX6_stains 100 = .ok (.aload_n 0, 1) := by decide +kernel
theorem dX6_stains_101 : decode cX6_stains 101 = .ok (.getfield 42, 3) := by decide +kernel
theorem dX6_stains_104 : decode cX6_stains 104 = .ok (.iload_n 2, 1) := by decide +kernel
theorem dX6_stains_105 : decode cX6_stains 105 = .ok (.aaload, 1) := by decide +kernel
theorem dX6_stains_106 : decode cX6_stains 106 = .ok (.iload 4, 2) := by decide +kernel
theorem dX6_stains_108 : decode cX6_stains 108 = .ok (.iload 5, 2) := by decide +kernel
theorem dX6_stains_110 : decode cX6_stains 110 = .ok (.invokevirtual 233, 3) := by decide +kernel
theorem dX6_stains_113 : decode cX6_stains 113 = .ok (.ireturn, 1) := by decide +kernel
set_option maxRecDepth 20000 in
theorem ggX6_film_X6_outside : GoodIn wsX6_film wsX6_outside := goodIn_r _ [5] (by decide +kernel) (by decide +kernel)
set_option maxRecDepth 20000 in
theorem gX6_film_X6_outside : GoodIn wsX6_film (va_wsS RX6 51 yX6_outside wsX6_outside) := goodIn_app (goodIn_of _ (by decide +kernel)) ggX6_film_X6_outside
set_option maxRecDepth 20000 in
theorem ggX6_film_X6_isSheet : GoodIn wsX6_film wsX6_isSheet := goodIn_r _ [8, 2, 3, 4, 5] (by decide +kernel) (by decide +kernel)
set_option maxRecDepth 20000 in
theorem gX6_film_X6_isSheet : GoodIn wsX6_film (va_wsS RX6 219 yX6_isSheet wsX6_isSheet) := goodIn_app (goodIn_of _ (by decide +kernel)) ggX6_film_X6_isSheet
set_option maxRecDepth 20000 in
theorem ggX6_film_X6_isLane : GoodIn wsX6_film wsX6_isLane := goodIn_r _ [11, 2, 3, 4, 5] (by decide +kernel) (by decide +kernel)
set_option maxRecDepth 20000 in
theorem gX6_film_X6_isLane : GoodIn wsX6_film (va_wsS RX6 222 yX6_isLane wsX6_isLane) := goodIn_app (goodIn_of _ (by decide +kernel)) ggX6_film_X6_isLane
set_option maxRecDepth 20000 in
theorem ggX6_film_X3_refuse : GoodIn wsX6_film wsX3_refuse := goodIn_r _ [16, 17, 18, 19, 20, 21, 15, 22, 23, 108, 109, 110, 111] (by decide +kernel) (by decide +kernel)
set_option maxRecDepth 20000 in
theorem gX6_film_X3_refuse : GoodIn wsX6_film (wsV RX6 225 RX3 yX3_refuse wsX3_refuse) := goodIn_app (goodIn_of _ (by decide +kernel)) ggX6_film_X3_refuse
set_option maxRecDepth 20000 in
theorem ggX6_film_X6_startTrial : GoodIn wsX6_film wsX6_startTrial := goodIn_r _ [27, 28, 29, 30, 31, 32, 33, 34, 35, 36, 37, 38, 39, 40, 41, 42, 43, 44, 45, 46, 47, 48, 49, 50, 51, 101, 102, 103, 104, 105, 106, 107, 112, 113, 114, 115, 116, 117, 118, 119, 120, 121, 122, 123, 124, 125] (by decide +kernel) (by decide +kernel)
set_option maxRecDepth 20000 in
theorem gX6_film_X6_startTrial : GoodIn wsX6_film (wsV RX6 162 RX6 yX6_startTrial wsX6_startTrial) := goodIn_app (goodIn_of _ (by decide +kernel)) ggX6_film_X6_startTrial
set_option maxRecDepth 20000 in
theorem ggX6_film_X6_yearOfTrial : GoodIn wsX6_film wsX6_yearOfTrial := goodIn_r _ [55, 28, 29, 56, 57, 58, 59, 60, 61, 62, 63, 64, 65, 66, 67, 34, 68, 43, 69, 70, 71, 72, 37, 36, 73, 74, 75, 76, 44, 49, 77, 78, 79, 80, 50, 81, 82, 83, 84, 85, 86, 87, 88, 89, 90, 91, 101, 102, 103, 104, 105, 106, 107, 112, 113, 114, 115, 116, 117, 118, 119, 120, 121, 122, 123, 124, 125, 126, 127] (by decide +kernel) (by decide +kernel)
set_option maxRecDepth 20000 in
theorem gX6_film_X6_yearOfTrial : GoodIn wsX6_film (wsV RX6 168 RX6 yX6_yearOfTrial wsX6_yearOfTrial) := goodIn_app (goodIn_of _ (by decide +kernel)) ggX6_film_X6_yearOfTrial
set_option maxRecDepth 20000 in
theorem ggX6_film_X3_put : GoodIn wsX6_film wsX3_put := goodIn_r _ [95, 96, 97, 98, 99, 15, 100, 18, 108, 109, 110, 111] (by decide +kernel) (by decide +kernel)
set_option maxRecDepth 20000 in
theorem gX6_film_X3_put : GoodIn wsX6_film (wsV RX6 236 RX3 yX3_put wsX3_put) := goodIn_app (goodIn_of _ (by decide +kernel)) ggX6_film_X3_put
theorem dX6_film_0 : decode cX6_film 0 = .ok (.iload_n 1, 1) := by decide +kernel
theorem dX6_film_1 : decode cX6_film 1 = .ok (.iconst 1, 1) := by decide +kernel
theorem dX6_film_2 : decode cX6_film 2 = .ok (.bipush 24, 2) := by decide +kernel
theorem dX6_film_4 : decode cX6_film 4 = .ok (.invokestatic 51, 3) := by decide +kernel
theorem dX6_film_7 : decode cX6_film 7 = .ok (.ifCond .ne 17, 3) := by decide +kernel
theorem dX6_film_10 : decode cX6_film 10 = .ok (.iload_n 2, 1) := by decide +kernel
theorem dX6_film_11 : decode cX6_film 11 = .ok (.invokestatic 219, 3) := by decide +kernel
theorem dX6_film_14 : decode cX6_film 14 = .ok (.ifCond .eq 10, 3) := by decide +kernel
theorem dX6_film_17 : decode cX6_film 17 = .ok (.iload_n 3, 1) := by decide +kernel
theorem dX6_film_18 : decode cX6_film 18 = .ok (.invokestatic 222, 3) := by decide +kernel
theorem dX6_film_21 : decode cX6_film 21 = .ok (.ifCond .ne 5, 3) := by decide +kernel
theorem dX6_film_24 : decode cX6_film 24 = .ok (.iconst (-1), 1) := by decide +kernel
theorem dX6_film_25 : decode cX6_film 25 = .ok (.ireturn, 1) := by decide +kernel
theorem dX6_film_26 : decode cX6_film 26 = .ok (.aload_n 0, 1) := by decide +kernel
theorem dX6_film_27 : decode cX6_film 27 = .ok (.getfield 42, 3) := by decide +kernel
theorem dX6_film_30 : decode cX6_film 30 = .ok (.iload_n 2, 1) := by decide +kernel
theorem dX6_film_31 : decode cX6_film 31 = .ok (.aaload, 1) := by decide +kernel
theorem dX6_film_32 : decode cX6_film 32 = .ok (.iload_n 3, 1) := by decide +kernel
theorem dX6_film_33 : decode cX6_film 33 = .ok (.iload 4, 2) := by decide +kernel
theorem dX6_film_35 : decode cX6_film 35 = .ok (.iload_n 1, 1) := by decide +kernel
theorem dX6_film_36 : decode cX6_film 36 = .ok (.invokevirtual 225, 3) := by decide +kernel
theorem dX6_film_39 : decode cX6_film 39 = .ok (.istore 5, 2) := by decide +kernel
theorem dX6_film_41 : decode cX6_film 41 = .ok (.iload 5, 2) := by decide +kernel
theorem dX6_film_43 : decode cX6_film 43 = .ok (.ifCond .ge 6, 3) := by decide +kernel
theorem dX6_film_46 : decode cX6_film 46 = .ok (.iload 5, 2) := by decide +kernel
theorem dX6_film_48 : decode cX6_film 48 = .ok (.ireturn, 1) := by decide +kernel
theorem dX6_film_49 : decode cX6_film 49 = .ok (.aload_n 0, 1) := by decide +kernel
theorem dX6_film_50 : decode cX6_film 50 = .ok (.invokevirtual 162, 3) := by decide +kernel
theorem dX6_film_53 : decode cX6_film 53 = .ok (.iconst 0, 1) := by decide +kernel
theorem dX6_film_54 : decode cX6_film 54 = .ok (.istore 6, 2) := by decide +kernel
theorem dX6_film_56 : decode cX6_film 56 = .ok (.iload 6, 2) := by decide +kernel
theorem dX6_film_58 : decode cX6_film 58 = .ok (.iload_n 1, 1) := by decide +kernel
theorem dX6_film_59 : decode cX6_film 59 = .ok (.if_icmp .ge 28, 3) := by decide +kernel
theorem dX6_film_62 : decode cX6_film 62 = .ok (.aload_n 0, 1) := by decide +kernel
theorem dX6_film_63 : decode cX6_film 63 = .ok (.getfield 42, 3) := by decide +kernel
theorem dX6_film_66 : decode cX6_film 66 = .ok (.iload_n 2, 1) := by decide +kernel
theorem dX6_film_67 : decode cX6_film 67 = .ok (.aaload, 1) := by decide +kernel
theorem dX6_film_68 : decode cX6_film 68 = .ok (.iload 4, 2) := by decide +kernel
theorem dX6_film_70 : decode cX6_film 70 = .ok (.iload 6, 2) := by decide +kernel
theorem dX6_film_72 : decode cX6_film 72 = .ok (.iadd, 1) := by decide +kernel
theorem dX6_film_73 : decode cX6_film 73 = .ok (.aload_n 0, 1) := by decide +kernel
theorem dX6_film_74 : decode cX6_film 74 = .ok (.invokevirtual 168, 3) := by decide +kernel
theorem dX6_film_77 : decode cX6_film 77 = .ok (.i2l, 1) := by decide +kernel
theorem dX6_film_78 : decode cX6_film 78 = .ok (.invokevirtual 236, 3) := by decide +kernel
theorem dX6_film_81 : decode cX6_film 81 = .ok (.iinc 6 1, 3) := by decide +kernel
theorem dX6_film_84 : decode cX6_film 84 = .ok (.goto (-28), 3) := by decide +kernel
theorem dX6_film_87 : decode cX6_film 87 = .ok (.iload_n 1, 1) := by decide +kernel
theorem dX6_film_88 : decode cX6_film 88 = .ok (.ireturn, 1) := by decide +kernel
set_option maxRecDepth 20000 in
theorem ggX6_sheet_X6_isSheet : GoodIn wsX6_sheet wsX6_isSheet := goodIn_r _ [5, 6, 7, 4, 8] (by decide +kernel) (by decide +kernel)
set_option maxRecDepth 20000 in
theorem gX6_sheet_X6_isSheet : GoodIn wsX6_sheet (va_wsS RX6 219 yX6_isSheet wsX6_isSheet) := goodIn_app (goodIn_of _ (by decide +kernel)) ggX6_sheet_X6_isSheet
set_option maxRecDepth 20000 in
theorem ggX6_sheet_X6_isLane : GoodIn wsX6_sheet wsX6_isLane := goodIn_r _ [11, 6, 7, 4, 8] (by decide +kernel) (by decide +kernel)
set_option maxRecDepth 20000 in
theorem gX6_sheet_X6_isLane : GoodIn wsX6_sheet (va_wsS RX6 222 yX6_isLane wsX6_isLane) := goodIn_app (goodIn_of _ (by decide +kernel)) ggX6_sheet_X6_isLane
set_option maxRecDepth 20000 in
theorem ggX6_sheet_X3_begin : GoodIn wsX6_sheet wsX3_begin := goodIn_r _ [16, 17, 18, 19, 20, 28, 29, 30, 31] (by decide +kernel) (by decide +kernel)
set_option maxRecDepth 20000 in
theorem gX6_sheet_X3_begin : GoodIn wsX6_sheet (wsV RX6 240 RX3 yX3_begin wsX3_begin) := goodIn_app (goodIn_of _ (by decide +kernel)) ggX6_sheet_X3_begin
theorem dX6_sheet_0 : decode cX6_sheet 0 = .ok (.iload_n 1, 1) := by decide +kernel
theorem dX6_sheet_1 : decode cX6_sheet 1 = .ok (.invokestatic 219, 3) := by decide +kernel
theorem dX6_sheet_4 : decode cX6_sheet 4 = .ok (.ifCond .eq 16, 3) := by decide +kernel
theorem dX6_sheet_7 : decode cX6_sheet 7 = .ok (.iload_n 2, 1) := by decide +kernel
theorem dX6_sheet_8 : decode cX6_sheet 8 = .ok (.invokestatic 222, 3) := by decide +kernel
theorem dX6_sheet_11 : decode cX6_sheet 11 = .ok (.ifCond .eq 9, 3) := by decide +kernel
theorem dX6_sheet_14 : decode cX6_sheet 14 = .ok (.iload_n 3, 1) := by decide +kernel
theorem dX6_sheet_15 : decode cX6_sheet 15 = .ok (.bipush 24, 2) := by decide +kernel
theorem dX6_sheet_17 : decode cX6_sheet 17 = .ok (.if_icmp .le 5, 3) := by decide +kernel
theorem dX6_sheet_20 : decode cX6_sheet 20 = .ok (.iconst (-1), 1) := by decide +kernel
theorem dX6_sheet_21 : decode cX6_sheet 21 = .ok (.ireturn, 1) := by decide +kernel
theorem dX6_sheet_22 : decode cX6_sheet 22 = .ok (.iload_n 3, 1) := by decide +kernel
theorem dX6_sheet_23 : decode cX6_sheet 23 = .ok (.ifCond .ge 6, 3) := by decide +kernel
theorem dX6_sheet_26 : decode cX6_sheet 26 = .ok (.bipush (-14), 2) := by decide +kernel
theorem dX6_sheet_28 : decode cX6_sheet 28 = .ok (.ireturn, 1) := by decide +kernel
theorem dX6_sheet_29 : decode cX6_sheet 29 = .ok (.aload_n 0, 1) := by decide +kernel
theorem dX6_sheet_30 : decode cX6_sheet 30 = .ok (.getfield 42, 3) := by decide +kernel
theorem dX6_sheet_33 : decode cX6_sheet 33 = .ok (.iload_n 1, 1) := by decide +kernel
theorem dX6_sheet_34 : decode cX6_sheet 34 = .ok (.aaload, 1) := by decide +kernel
theorem dX6_sheet_35 : decode cX6_sheet 35 = .ok (.iload_n 2, 1) := by decide +kernel
theorem dX6_sheet_36 : decode cX6_sheet 36 = .ok (.iload_n 3, 1) := by decide +kernel
theorem dX6_sheet_37 : decode cX6_sheet 37 = .ok (.invokevirtual 240, 3) := by decide +kernel
theorem dX6_sheet_40 : decode cX6_sheet 40 = .ok (.iload_n 3, 1) := by decide +kernel
theorem dX6_sheet_41 : decode cX6_sheet 41 = .ok (.ireturn, 1) := by decide +kernel
set_option maxRecDepth 20000 in
theorem ggX6_drop_X6_isSheet : GoodIn wsX6_drop wsX6_isSheet := goodIn_r _ [7, 8, 9, 6, 10] (by decide +kernel) (by decide +kernel)
set_option maxRecDepth 20000 in
theorem gX6_drop_X6_isSheet : GoodIn wsX6_drop (va_wsS RX6 219 yX6_isSheet wsX6_isSheet) := goodIn_app (goodIn_of _ (by decide +kernel)) ggX6_drop_X6_isSheet
theorem dX6_drop_0 : decode cX6_drop 0 = .ok (.iload_n 1, 1) := by decide +kernel
theorem dX6_drop_1 : decode cX6_drop 1 = .ok (.invokestatic 219, 3) := by decide +kernel
theorem dX6_drop_4 : decode cX6_drop 4 = .ok (.ifCond .ne 5, 3) := by decide +kernel
theorem dX6_drop_7 : decode cX6_drop 7 = .ok (.iconst (-1), 1) := by decide +kernel
theorem dX6_drop_8 : decode cX6_drop 8 = .ok (.ireturn, 1) := by decide +kernel
theorem dX6_drop_9 : decode cX6_drop 9 = .ok (.aload_n 0, 1) := by decide +kernel
theorem dX6_drop_10 : decode cX6_drop 10 = .ok (.getfield 42, 3) := by decide +kernel
theorem dX6_drop_13 : decode cX6_drop 13 = .ok (.iload_n 1, 1) := by decide +kernel
theorem dX6_drop_14 : decode cX6_drop 14 = .ok (.aaload, 1) := by decide +kernel
theorem dX6_drop_15 : decode cX6_drop 15 = .ok (.getfield 243, 3) := by decide +kernel
theorem dX6_drop_18 : decode cX6_drop 18 = .ok (.ifCond .ne 6, 3) := by decide +kernel
theorem dX6_drop_21 : decode cX6_drop 21 = .ok (.bipush (-11), 2) := by decide +kernel
theorem dX6_drop_23 : decode cX6_drop 23 = .ok (.ireturn, 1) := by decide +kernel
theorem dX6_drop_24 : decode cX6_drop 24 = .ok (.aload_n 0, 1) := by decide +kernel
theorem dX6_drop_25 : decode cX6_drop 25 = .ok (.getfield 42, 3) := by decide +kernel
theorem dX6_drop_28 : decode cX6_drop 28 = .ok (.iload_n 1, 1) := by decide +kernel
theorem dX6_drop_29 : decode cX6_drop 29 = .ok (.aaload, 1) := by decide +kernel
theorem dX6_drop_30 : decode cX6_drop 30 = .ok (.iconst 0, 1) := by decide +kernel
theorem dX6_drop_31 : decode cX6_drop 31 = .ok (.putfield 243, 3) := by decide +kernel
theorem dX6_drop_34 : decode cX6_drop 34 = .ok (.aload_n 0, 1) := by decide +kernel
theorem dX6_drop_35 : decode cX6_drop 35 = .ok (.getfield 42, 3) := by decide +kernel
theorem dX6_drop_38 : decode cX6_drop 38 = .ok (.iload_n 1, 1) := by decide +kernel
theorem dX6_drop_39 : decode cX6_drop 39 = .ok (.aaload, 1) := by decide +kernel
theorem dX6_drop_40 : decode cX6_drop 40 = .ok (.getfield 246, 3) := by decide +kernel
theorem dX6_drop_43 : decode cX6_drop 43 = .ok (.ireturn, 1) := by decide +kernel
set_option maxRecDepth 20000 in
theorem ggX6_item_X6_isSheet : GoodIn wsX6_item wsX6_isSheet := goodIn_r _ [5, 6, 7, 4, 8] (by decide +kernel) (by decide +kernel)
set_option maxRecDepth 20000 in
theorem gX6_item_X6_isSheet : GoodIn wsX6_item (va_wsS RX6 219 yX6_isSheet wsX6_isSheet) := goodIn_app (goodIn_of _ (by decide +kernel)) ggX6_item_X6_isSheet
set_option maxRecDepth 20000 in
theorem ggX6_item_X6_isLane : GoodIn wsX6_item wsX6_isLane := goodIn_r _ [11, 6, 7, 4, 8] (by decide +kernel) (by decide +kernel)
set_option maxRecDepth 20000 in
theorem gX6_item_X6_isLane : GoodIn wsX6_item (va_wsS RX6 222 yX6_isLane wsX6_isLane) := goodIn_app (goodIn_of _ (by decide +kernel)) ggX6_item_X6_isLane
set_option maxRecDepth 20000 in
theorem ggX6_item_X3_refuse : GoodIn wsX6_item wsX3_refuse := goodIn_r _ [16, 17, 18, 19, 20, 21, 15, 22, 23, 40, 41, 42, 43] (by decide +kernel) (by decide +kernel)
set_option maxRecDepth 20000 in
theorem gX6_item_X3_refuse : GoodIn wsX6_item (wsV RX6 225 RX3 yX3_refuse wsX3_refuse) := goodIn_app (goodIn_of _ (by decide +kernel)) ggX6_item_X3_refuse
set_option maxRecDepth 20000 in
theorem ggX6_item_X3_put : GoodIn wsX6_item wsX3_put := goodIn_r _ [27, 28, 29, 30, 31, 15, 32, 18, 40, 41, 42, 43] (by decide +kernel) (by decide +kernel)
set_option maxRecDepth 20000 in
theorem gX6_item_X3_put : GoodIn wsX6_item (wsV RX6 236 RX3 yX3_put wsX3_put) := goodIn_app (goodIn_of _ (by decide +kernel)) ggX6_item_X3_put
theorem dX6_item_0 : decode cX6_item 0 = .ok (.iload_n 1, 1) := by decide +kernel
theorem dX6_item_1 : decode cX6_item 1 = .ok (.invokestatic 219, 3) := by decide +kernel
theorem dX6_item_4 : decode cX6_item 4 = .ok (.ifCond .eq 10, 3) := by decide +kernel
theorem dX6_item_7 : decode cX6_item 7 = .ok (.iload_n 2, 1) := by decide +kernel
theorem dX6_item_8 : decode cX6_item 8 = .ok (.invokestatic 222, 3) := by decide +kernel
theorem dX6_item_11 : decode cX6_item 11 = .ok (.ifCond .ne 5, 3) := by decide +kernel
theorem dX6_item_14 : decode cX6_item 14 = .ok (.iconst (-1), 1) := by decide +kernel
theorem dX6_item_15 : decode cX6_item 15 = .ok (.ireturn, 1) := by decide +kernel
theorem dX6_item_16 : decode cX6_item 16 = .ok (.aload_n 0, 1) := by decide +kernel
theorem dX6_item_17 : decode cX6_item 17 = .ok (.getfield 42, 3) := by decide +kernel
theorem dX6_item_20 : decode cX6_item 20 = .ok (.iload_n 1, 1) := by decide +kernel
theorem dX6_item_21 : decode cX6_item 21 = .ok (.aaload, 1) := by decide +kernel
theorem dX6_item_22 : decode cX6_item 22 = .ok (.iload_n 2, 1) := by decide +kernel
theorem dX6_item_23 : decode cX6_item 23 = .ok (.iload_n 3, 1) := by decide +kernel
theorem dX6_item_24 : decode cX6_item 24 = .ok (.iconst 1, 1) := by decide +kernel
theorem dX6_item_25 : decode cX6_item 25 = .ok (.invokevirtual 225, 3) := by decide +kernel
theorem dX6_item_28 : decode cX6_item 28 = .ok (.istore 6, 2) := by decide +kernel
theorem dX6_item_30 : decode cX6_item 30 = .ok (.iload 6, 2) := by decide +kernel
theorem dX6_item_32 : decode cX6_item 32 = .ok (.ifCond .ge 6, 3) := by decide +kernel
theorem dX6_item_35 : decode cX6_item 35 = .ok (.iload 6, 2) := by decide +kernel
theorem dX6_item_37 : decode cX6_item 37 = .ok (.ireturn, 1) := by decide +kernel
theorem dX6_item_38 : decode cX6_item 38 = .ok (.aload_n 0, 1) := by decide +kernel
theorem dX6_item_39 : decode cX6_item 39 = .ok (.getfield 42, 3) := by decide +kernel
theorem dX6_item_42 : decode cX6_item 42 = .ok (.iload_n 1, 1) := by decide +kernel
theorem dX6_item_43 : decode cX6_item 43 = .ok (.aaload, 1) := by decide +kernel
theorem dX6_item_44 : decode cX6_item 44 = .ok (.iload_n 3, 1) := by decide +kernel
theorem dX6_item_45 : decode cX6_item 45 = .ok (.lload 4, 2) := by decide +kernel
theorem dX6_item_47 : decode cX6_item 47 = .ok (.invokevirtual 236, 3) := by decide +kernel
theorem dX6_item_50 : decode cX6_item 50 = .ok (.iconst 1, 1) := by decide +kernel
theorem dX6_item_51 : decode cX6_item 51 = .ok (.ireturn, 1) := by decide +kernel
set_option maxRecDepth 20000 in
theorem ggX6_copy_X6_isSheet : GoodIn wsX6_copy wsX6_isSheet := goodIn_r _ [12, 13, 14, 11, 15] (by decide +kernel) (by decide +kernel)
set_option maxRecDepth 20000 in
theorem gX6_copy_X6_isSheet : GoodIn wsX6_copy (va_wsS RX6 219 yX6_isSheet wsX6_isSheet) := goodIn_app (goodIn_of _ (by decide +kernel)) ggX6_copy_X6_isSheet
set_option maxRecDepth 20000 in
theorem ggX6_copy_X3_spans : GoodIn wsX6_copy wsX3_spans := goodIn_r _ [20, 21, 29, 30, 31, 32] (by decide +kernel) (by decide +kernel)
set_option maxRecDepth 20000 in
theorem gX6_copy_X3_spans : GoodIn wsX6_copy (wsV RX6 250 RX3 yX3_spans wsX3_spans) := goodIn_app (goodIn_of _ (by decide +kernel)) ggX6_copy_X3_spans
theorem dX6_copy_0 : decode cX6_copy 0 = .ok (.iload_n 1, 1) := by decide +kernel
theorem dX6_copy_1 : decode cX6_copy 1 = .ok (.invokestatic 219, 3) := by decide +kernel
theorem dX6_copy_4 : decode cX6_copy 4 = .ok (.ifCond .eq 10, 3) := by decide +kernel
theorem dX6_copy_7 : decode cX6_copy 7 = .ok (.iload_n 3, 1) := by decide +kernel
theorem dX6_copy_8 : decode cX6_copy 8 = .ok (.invokestatic 219, 3) := by decide +kernel
theorem dX6_copy_11 : decode cX6_copy 11 = .ok (.ifCond .ne 5, 3) := by decide +kernel
theorem dX6_copy_14 : decode cX6_copy 14 = .ok (.iconst (-1), 1) := by decide +kernel
theorem dX6_copy_15 : decode cX6_copy 15 = .ok (.ireturn, 1) := by decide +kernel
theorem dX6_copy_16 : decode cX6_copy 16 = .ok (.aload_n 0, 1) := by decide +kernel
theorem dX6_copy_17 : decode cX6_copy 17 = .ok (.getfield 42, 3) := by decide +kernel
theorem dX6_copy_20 : decode cX6_copy 20 = .ok (.iload_n 1, 1) := by decide +kernel
theorem dX6_copy_21 : decode cX6_copy 21 = .ok (.aaload, 1) := by decide +kernel
theorem dX6_copy_22 : decode cX6_copy 22 = .ok (.astore 6, 2) := by decide +kernel
theorem dX6_copy_24 : decode cX6_copy 24 = .ok (.aload_n 0, 1) := by decide +kernel
theorem dX6_copy_25 : decode cX6_copy 25 = .ok (.getfield 42, 3) := by decide +kernel
theorem dX6_copy_28 : decode cX6_copy 28 = .ok (.iload_n 3, 1) := by decide +kernel
theorem dX6_copy_29 : decode cX6_copy 29 = .ok (.aaload, 1) := by decide +kernel
theorem dX6_copy_30 : decode cX6_copy 30 = .ok (.astore 7, 2) := by decide +kernel
theorem dX6_copy_32 : decode cX6_copy 32 = .ok (.aload 6, 2) := by decide +kernel
theorem dX6_copy_34 : decode cX6_copy 34 = .ok (.getfield 243, 3) := by decide +kernel
theorem dX6_copy_37 : decode cX6_copy 37 = .ok (.ifCond .eq 11, 3) := by decide +kernel
theorem dX6_copy_40 : decode cX6_copy 40 = .ok (.aload 7, 2) := by decide +kernel
theorem dX6_copy_42 : decode cX6_copy 42 = .ok (.getfield 243, 3) := by decide +kernel
theorem dX6_copy_45 : decode cX6_copy 45 = .ok (.ifCond .ne 6, 3) := by decide +kernel
theorem dX6_copy_48 : decode cX6_copy 48 = .ok (.bipush (-11), 2) := by decide +kernel
theorem dX6_copy_50 : decode cX6_copy 50 = .ok (.ireturn, 1) := by decide +kernel
theorem dX6_copy_51 : decode cX6_copy 51 = .ok (.aload 6, 2) := by decide +kernel
theorem dX6_copy_53 : decode cX6_copy 53 = .ok (.getfield 247, 3) := by decide +kernel
theorem dX6_copy_56 : decode cX6_copy 56 = .ok (.aload 7, 2) := by decide +kernel
theorem dX6_copy_58 : decode cX6_copy 58 = .ok (.getfield 247, 3) := by decide +kernel
theorem dX6_copy_61 : decode cX6_copy 61 = .ok (.if_icmp .eq 6, 3) := by decide +kernel
theorem dX6_copy_64 : decode cX6_copy 64 = .ok (.bipush (-12), 2) := by decide +kernel
theorem dX6_copy_66 : decode cX6_copy 66 = .ok (.ireturn, 1) := by decide +kernel
theorem dX6_copy_67 : decode cX6_copy 67 = .ok (.aload 6, 2) := by decide +kernel
theorem dX6_copy_69 : decode cX6_copy 69 = .ok (.iload_n 2, 1) := by decide +kernel
theorem dX6_copy_70 : decode cX6_copy 70 = .ok (.iload 5, 2) := by decide +kernel
theorem dX6_copy_72 : decode cX6_copy 72 = .ok (.invokevirtual 250, 3) := by decide +kernel
theorem dX6_copy_75 : decode cX6_copy 75 = .ok (.ifCond .eq 15, 3) := by decide +kernel
theorem dX6_copy_78 : decode cX6_copy 78 = .ok (.aload 7, 2) := by decide +kernel
theorem dX6_copy_80 : decode cX6_copy 80 = .ok (.iload 4, 2) := by decide +kernel
theorem dX6_copy_82 : decode cX6_copy 82 = .ok (.iload 5, 2) := by decide +kernel
theorem dX6_copy_84 : decode cX6_copy 84 = .ok (.invokevirtual 250, 3) := by decide +kernel
theorem dX6_copy_87 : decode cX6_copy 87 = .ok (.ifCond .ne 6, 3) := by decide +kernel
theorem dX6_copy_90 : decode cX6_copy 90 = .ok (.bipush (-13), 2) := by decide +kernel
theorem dX6_copy_92 : decode cX6_copy 92 = .ok (.ireturn, 1) := by decide +kernel
theorem dX6_copy_93 : decode cX6_copy 93 = .ok (.aload 6, 2) := by decide +kernel
theorem dX6_copy_95 : decode cX6_copy 95 = .ok (.getfield 253, 3) := by decide +kernel
theorem dX6_copy_98 : decode cX6_copy 98 = .ok (.iload_n 2, 1) := by decide +kernel
theorem dX6_copy_99 : decode cX6_copy 99 = .ok (.aload 7, 2) := by decide +kernel
theorem dX6_copy_101 : decode cX6_copy 101 = .ok (.getfield 253, 3) := by decide +kernel
theorem dX6_copy_104 : decode cX6_copy 104 = .ok (.iload 4, 2) := by decide +kernel
theorem dX6_copy_106 : decode cX6_copy 106 = .ok (.iload 5, 2) := by decide +kernel
theorem dX6_copy_108 : decode cX6_copy 108 = .ok (.invokestatic 257, 3) := by decide +kernel
theorem dX6_copy_111 : decode cX6_copy 111 = .ok (.iload 5, 2) := by decide +kernel
theorem dX6_copy_113 : decode cX6_copy 113 = .ok (.ireturn, 1) := by decide +kernel
theorem dX6_outside_0 : decode cX6_outside 0 = .ok (.iload_n 0, 1) := by decide +kernel
theorem dX6_outside_1 : decode cX6_outside 1 = .ok (.iload_n 1, 1) := by decide +kernel
theorem dX6_outside_2 : decode cX6_outside 2 = .ok (.if_icmp .lt 8, 3) := by decide +kernel
theorem dX6_outside_5 : decode cX6_outside 5 = .ok (.iload_n 0, 1) := by decide +kernel
theorem dX6_outside_6 : decode cX6_outside 6 = .ok (.iload_n 2, 1) := by decide +kernel
theorem dX6_outside_7 : decode cX6_outside 7 = .ok (.if_icmp .le 7, 3) := by decide +kernel
theorem dX6_outside_10 : decode cX6_outside 10 = .ok (.iconst 1, 1) := by decide +kernel
theorem dX6_outside_11 : decode cX6_outside 11 = .ok (.goto 4, 3) := by decide +kernel
theorem dX6_outside_14 : decode cX6_outside 14 = .ok (.iconst 0, 1) := by decide +kernel
theorem dX6_outside_15 : decode cX6_outside 15 = .ok (.ireturn, 1) := by decide +kernel
set_option maxRecDepth 20000 in
theorem ggX6_isKind_X6_outside : GoodIn wsX6_isKind wsX6_outside := goodIn_r _ [4] (by decide +kernel) (by decide +kernel)
set_option maxRecDepth 20000 in
theorem gX6_isKind_X6_outside : GoodIn wsX6_isKind (va_wsS RX6 51 yX6_outside wsX6_outside) := goodIn_app (goodIn_of _ (by decide +kernel)) ggX6_isKind_X6_outside
theorem dX6_isKind_0 : decode cX6_isKind 0 = .ok (.iload_n 0, 1) := by decide +kernel
theorem dX6_isKind_1 : decode cX6_isKind 1 = .ok (.iconst 0, 1) := by decide +kernel
theorem dX6_isKind_2 : decode cX6_isKind 2 = .ok (.iconst 4, 1) := by decide +kernel
theorem dX6_isKind_3 : decode cX6_isKind 3 = .ok (.invokestatic 51, 3) := by decide +kernel
theorem dX6_isKind_6 : decode cX6_isKind 6 = .ok (.ifCond .ne 7, 3) := by decide +kernel
theorem dX6_isKind_9 : decode cX6_isKind 9 = .ok (.iconst 1, 1) := by decide +kernel
theorem dX6_isKind_10 : decode cX6_isKind 10 = .ok (.goto 4, 3) := by decide +kernel
theorem dX6_isKind_13 : decode cX6_isKind 13 = .ok (.iconst 0, 1) := by decide +kernel
theorem dX6_isKind_14 : decode cX6_isKind 14 = .ok (.ireturn, 1) := by decide +kernel
set_option maxRecDepth 20000 in
theorem ggX6_isSheet_X6_outside : GoodIn wsX6_isSheet wsX6_outside := goodIn_r _ [4] (by decide +kernel) (by decide +kernel)
set_option maxRecDepth 20000 in
theorem gX6_isSheet_X6_outside : GoodIn wsX6_isSheet (va_wsS RX6 51 yX6_outside wsX6_outside) := goodIn_app (goodIn_of _ (by decide +kernel)) ggX6_isSheet_X6_outside
theorem dX6_isSheet_0 : decode cX6_isSheet 0 = .ok (.iload_n 0, 1) := by decide +kernel
theorem dX6_isSheet_1 : decode cX6_isSheet 1 = .ok (.iconst 0, 1) := by decide +kernel
theorem dX6_isSheet_2 : decode cX6_isSheet 2 = .ok (.iconst 3, 1) := by decide +kernel
theorem dX6_isSheet_3 : decode cX6_isSheet 3 = .ok (.invokestatic 51, 3) := by decide +kernel
theorem dX6_isSheet_6 : decode cX6_isSheet 6 = .ok (.ifCond .ne 7, 3) := by decide +kernel
theorem dX6_isSheet_9 : decode cX6_isSheet 9 = .ok (.iconst 1, 1) := by decide +kernel
theorem dX6_isSheet_10 : decode cX6_isSheet 10 = .ok (.goto 4, 3) := by decide +kernel
theorem dX6_isSheet_13 : decode cX6_isSheet 13 = .ok (.iconst 0, 1) := by decide +kernel
theorem dX6_isSheet_14 : decode cX6_isSheet 14 = .ok (.ireturn, 1) := by decide +kernel
set_option maxRecDepth 20000 in
theorem ggX6_isLane_X6_outside : GoodIn wsX6_isLane wsX6_outside := goodIn_r _ [4] (by decide +kernel) (by decide +kernel)
set_option maxRecDepth 20000 in
theorem gX6_isLane_X6_outside : GoodIn wsX6_isLane (va_wsS RX6 51 yX6_outside wsX6_outside) := goodIn_app (goodIn_of _ (by decide +kernel)) ggX6_isLane_X6_outside
theorem dX6_isLane_0 : decode cX6_isLane 0 = .ok (.iload_n 0, 1) := by decide +kernel
theorem dX6_isLane_1 : decode cX6_isLane 1 = .ok (.iconst 0, 1) := by decide +kernel
theorem dX6_isLane_2 : decode cX6_isLane 2 = .ok (.iconst 3, 1) := by decide +kernel
theorem dX6_isLane_3 : decode cX6_isLane 3 = .ok (.invokestatic 51, 3) := by decide +kernel
theorem dX6_isLane_6 : decode cX6_isLane 6 = .ok (.ifCond .ne 7, 3) := by decide +kernel
theorem dX6_isLane_9 : decode cX6_isLane 9 = .ok (.iconst 1, 1) := by decide +kernel
theorem dX6_isLane_10 : decode cX6_isLane 10 = .ok (.goto 4, 3) := by decide +kernel
theorem dX6_isLane_13 : decode cX6_isLane 13 = .ok (.iconst 0, 1) := by decide +kernel
theorem dX6_isLane_14 : decode cX6_isLane 14 = .ok (.ireturn, 1) := by decide +kernel
set_option maxRecDepth 20000 in
theorem ggX6_refuseYears_X6_outside : GoodIn wsX6_refuseYears wsX6_outside := goodIn_r _ [7] (by decide +kernel) (by decide +kernel)
set_option maxRecDepth 20000 in
theorem gX6_refuseYears_X6_outside : GoodIn wsX6_refuseYears (va_wsS RX6 51 yX6_outside wsX6_outside) := goodIn_app (goodIn_of _ (by decide +kernel)) ggX6_refuseYears_X6_outside
theorem dX6_refuseYears_0 : decode cX6_refuseYears 0 = .ok (.iload_n 1, 1) := by decide +kernel
theorem dX6_refuseYears_1 : decode cX6_refuseYears 1 = .ok (.iconst 1, 1) := by decide +kernel
theorem dX6_refuseYears_2 : decode cX6_refuseYears 2 = .ok (.bipush 40, 2) := by decide +kernel
theorem dX6_refuseYears_4 : decode cX6_refuseYears 4 = .ok (.invokestatic 51, 3) := by decide +kernel
theorem dX6_refuseYears_7 : decode cX6_refuseYears 7 = .ok (.ifCond .eq 5, 3) := by decide +kernel
theorem dX6_refuseYears_10 : decode cX6_refuseYears 10 = .ok (.iconst (-1), 1) := by decide +kernel
theorem dX6_refuseYears_11 : decode cX6_refuseYears 11 = .ok (.ireturn, 1) := by decide +kernel
theorem dX6_refuseYears_12 : decode cX6_refuseYears 12 = .ok (.aload_n 0, 1) := by decide +kernel
theorem dX6_refuseYears_13 : decode cX6_refuseYears 13 = .ok (.getfield 10, 3) := by decide +kernel
theorem dX6_refuseYears_16 : decode cX6_refuseYears 16 = .ok (.getfield 72, 3) := by decide +kernel
theorem dX6_refuseYears_19 : decode cX6_refuseYears 19 = .ok (.getfield 99, 3) := by decide +kernel
theorem dX6_refuseYears_22 : decode cX6_refuseYears 22 = .ok (.iload_n 1, 1) := by decide +kernel
theorem dX6_refuseYears_23 : decode cX6_refuseYears 23 = .ok (.iadd, 1) := by decide +kernel
theorem dX6_refuseYears_24 : decode cX6_refuseYears 24 = .ok (.sipush 9999, 3) := by decide +kernel
theorem dX6_refuseYears_27 : decode cX6_refuseYears 27 = .ok (.if_icmp .le 8, 3) := by decide +kernel
theorem dX6_refuseYears_30 : decode cX6_refuseYears 30 = .ok (.bipush (-3), 2) := by decide +kernel
theorem dX6_refuseYears_32 : decode cX6_refuseYears 32 = .ok (.goto 4, 3) := by decide +kernel
theorem dX6_refuseYears_35 : decode cX6_refuseYears 35 = .ok (.iconst 0, 1) := by decide +kernel
theorem dX6_refuseYears_36 : decode cX6_refuseYears 36 = .ok (.ireturn, 1) := by decide +kernel
set_option maxRecDepth 20000 in
theorem ggX6_liveThrough_X1_remember : GoodIn wsX6_liveThrough wsX1_remember := goodIn_r _ [9, 10, 11, 12, 13, 14, 15, 16, 17, 18, 19, 20, 21, 22, 23, 24, 25, 26, 27, 28, 29, 30, 31, 32, 33, 34, 35, 36, 37, 38, 85, 86, 87, 88, 89, 90, 91, 92, 93, 94, 95, 96, 97, 98] (by decide +kernel) (by decide +kernel)
set_option maxRecDepth 20000 in
theorem gX6_liveThrough_X1_remember : GoodIn wsX6_liveThrough (wsV RX6 140 RX1 yX1_remember wsX1_remember) := goodIn_app (goodIn_of _ (by decide +kernel)) ggX6_liveThrough_X1_remember
set_option maxRecDepth 20000 in
theorem ggX6_liveThrough_X0_drawOut : GoodIn wsX6_liveThrough wsX0_drawOut := goodIn_r _ [42, 25, 43, 44, 45, 30, 46, 36, 91, 92, 93, 94, 95, 96, 97, 98] (by decide +kernel) (by decide +kernel)
set_option maxRecDepth 20000 in
theorem gX6_liveThrough_X0_drawOut : GoodIn wsX6_liveThrough (wsV RX6 263 RX0 yX0_drawOut wsX0_drawOut) := goodIn_app (goodIn_of _ (by decide +kernel)) ggX6_liveThrough_X0_drawOut
set_option maxRecDepth 20000 in
theorem ggX6_liveThrough_X5_inYear : GoodIn wsX6_liveThrough wsX5_inYear := goodIn_r _ [51, 52, 53, 99, 100] (by decide +kernel) (by decide +kernel)
set_option maxRecDepth 20000 in
theorem gX6_liveThrough_X5_inYear : GoodIn wsX6_liveThrough (wsV RX6 102 RX5 yX5_inYear wsX5_inYear) := goodIn_app (goodIn_of _ (by decide +kernel)) ggX6_liveThrough_X5_inYear
set_option maxRecDepth 20000 in
theorem ggX6_liveThrough_X0_passYear : GoodIn wsX6_liveThrough wsX0_passYear := goodIn_r _ [57, 30, 58, 15, 16, 17, 24, 23, 59, 60, 61, 21, 62, 31, 36, 63, 64, 65, 66, 37, 67, 68, 69, 70, 71, 72, 73, 74, 75, 76, 77, 91, 92, 93, 94, 95, 96, 97, 98] (by decide +kernel) (by decide +kernel)
set_option maxRecDepth 20000 in
theorem gX6_liveThrough_X0_passYear : GoodIn wsX6_liveThrough (wsV RX6 266 RX0 yX0_passYear wsX0_passYear) := goodIn_app (goodIn_of _ (by decide +kernel)) ggX6_liveThrough_X0_passYear
theorem dX6_liveThrough_0 : decode cX6_liveThrough 0 = .ok (.iconst 0, 1) := by decide +kernel
theorem dX6_liveThrough_1 : decode cX6_liveThrough 1 = .ok (.istore_n 3, 1) := by decide +kernel
theorem dX6_liveThrough_2 : decode cX6_liveThrough 2 = .ok (.iconst 0, 1) := by decide +kernel
theorem dX6_liveThrough_3 : decode cX6_liveThrough 3 = .ok (.istore 4, 2) := by decide +kernel
theorem dX6_liveThrough_5 : decode cX6_liveThrough 5 = .ok (.iload 4, 2) := by decide +kernel
theorem dX6_liveThrough_7 : decode cX6_liveThrough 7 = .ok (.iload_n 1, 1) := by decide +kernel
theorem dX6_liveThrough_8 : decode cX6_liveThrough 8 = .ok (.if_icmp .ge 63, 3) := by decide +kernel
theorem dX6_liveThrough_11 : decode cX6_liveThrough 11 = .ok (.aload_n 0, 1) := by decide +kernel
theorem dX6_liveThrough_12 : decode cX6_liveThrough 12 = .ok (.getfield 10, 3) := by decide +kernel
theorem dX6_liveThrough_15 : decode cX6_liveThrough 15 = .ok (.invokevirtual 140, 3) := by decide +kernel
theorem dX6_liveThrough_18 : decode cX6_liveThrough 18 = .ok (.iload_n 2, 1) := by decide +kernel
theorem dX6_liveThrough_19 : decode cX6_liveThrough 19 = .ok (.ifCond .eq 13, 3) := by decide +kernel
theorem dX6_liveThrough_22 : decode cX6_liveThrough 22 = .ok (.aload_n 0, 1) := by decide +kernel
theorem dX6_liveThrough_23 : decode cX6_liveThrough 23 = .ok (.getfield 10, 3) := by decide +kernel
theorem dX6_liveThrough_26 : decode cX6_liveThrough 26 = .ok (.getfield 72, 3) := by decide +kernel
theorem dX6_liveThrough_29 : decode cX6_liveThrough 29 = .ok (.invokevirtual 263, 3) := by decide +kernel
theorem dX6_liveThrough_32 : decode cX6_liveThrough 32 = .ok (.iload_n 3, 1) := by decide +kernel
theorem dX6_liveThrough_33 : decode cX6_liveThrough 33 = .ok (.aload_n 0, 1) := by decide +kernel
theorem dX6_liveThrough_34 : decode cX6_liveThrough 34 = .ok (.getfield 10, 3) := by decide +kernel
theorem dX6_liveThrough_37 : decode cX6_liveThrough 37 = .ok (.getfield 72, 3) := by decide +kernel
theorem dX6_liveThrough_40 : decode cX6_liveThrough 40 = .ok (.aload_n 0, 1) := by decide +kernel
theorem dX6_liveThrough_41 : decode cX6_liveThrough 41 = .ok (.getfield 10, 3) := by decide +kernel
theorem dX6_liveThrough_44 : decode cX6_liveThrough 44 = .ok (.getfield 59, 3) := by decide +kernel
theorem dX6_liveThrough_47 : decode cX6_liveThrough 47 = .ok (.aload_n 0, 1) := by decide +kernel
theorem dX6_liveThrough_48 : decode cX6_liveThrough 48 = .ok (.getfield 10, 3) := by decide +kernel
theorem dX6_liveThrough_51 : decode cX6_liveThrough 51 = .ok (.getfield 72, 3) := by decide +kernel
theorem dX6_liveThrough_54 : decode cX6_liveThrough 54 = .ok (.getfield 99, 3) := by decide +kernel
theorem dX6_liveThrough_57 : decode cX6_liveThrough 57 = .ok (.invokevirtual 102, 3) := by decide +kernel
theorem dX6_liveThrough_60 : decode cX6_liveThrough 60 = .ok (.invokevirtual 266, 3) := by decide +kernel
theorem dX6_liveThrough_63 : decode cX6_liveThrough 63 = .ok (.iadd, 1) := by decide +kernel
theorem dX6_liveThrough_64 : decode cX6_liveThrough 64 = .ok (.istore_n 3, 1) := by decide +kernel
theorem dX6_liveThrough_65 : decode cX6_liveThrough 65 = .ok (.iinc 4 1, 3) := by decide +kernel
theorem dX6_liveThrough_68 : decode cX6_liveThrough 68 = .ok (.goto (-63), 3) := by decide +kernel
theorem dX6_liveThrough_71 : decode cX6_liveThrough 71 = .ok (.iload_n 3, 1) := by decide +kernel
theorem dX6_liveThrough_72 : decode cX6_liveThrough 72 = .ok (.ireturn, 1) := by decide +kernel
set_option maxRecDepth 20000 in
theorem ggX6_startTrial_X0_become : GoodIn wsX6_startTrial wsX0_become := goodIn_r _ [8, 9, 10, 11, 12, 13, 14, 7, 15, 16, 17, 18, 19, 20, 21, 22, 23, 24, 38, 39, 40, 41, 42, 43, 44, 45] (by decide +kernel) (by decide +kernel)
set_option maxRecDepth 20000 in
theorem gX6_startTrial_X0_become : GoodIn wsX6_startTrial (wsV RX6 269 RX0 yX0_become wsX0_become) := goodIn_app (goodIn_of _ (by decide +kernel)) ggX6_startTrial_X0_become
theorem dX6_startTrial_0 : decode cX6_startTrial 0 = .ok (.aload_n 0, 1) := by decide +kernel
theorem dX6_startTrial_1 : decode cX6_startTrial 1 = .ok (.getfield 22, 3) := by decide +kernel
theorem dX6_startTrial_4 : decode cX6_startTrial 4 = .ok (.aload_n 0, 1) := by decide +kernel
theorem dX6_startTrial_5 : decode cX6_startTrial 5 = .ok (.getfield 10, 3) := by decide +kernel
theorem dX6_startTrial_8 : decode cX6_startTrial 8 = .ok (.getfield 72, 3) := by decide +kernel
theorem dX6_startTrial_11 : decode cX6_startTrial 11 = .ok (.invokevirtual 269, 3) := by decide +kernel
theorem dX6_startTrial_14 : decode cX6_startTrial 14 = .ok (.return_, 1) := by decide +kernel
set_option maxRecDepth 20000 in
theorem ggX6_yearOfTrial_X5_inYear : GoodIn wsX6_yearOfTrial wsX5_inYear := goodIn_r _ [9, 10, 11, 67, 68] (by decide +kernel) (by decide +kernel)
set_option maxRecDepth 20000 in
theorem gX6_yearOfTrial_X5_inYear : GoodIn wsX6_yearOfTrial (wsV RX6 102 RX5 yX5_inYear wsX5_inYear) := goodIn_app (goodIn_of _ (by decide +kernel)) ggX6_yearOfTrial_X5_inYear
set_option maxRecDepth 20000 in
theorem ggX6_yearOfTrial_X0_passYear : GoodIn wsX6_yearOfTrial wsX0_passYear := goodIn_r _ [16, 17, 18, 19, 20, 21, 22, 23, 24, 25, 26, 15, 27, 28, 29, 30, 31, 32, 33, 34, 35, 36, 37, 38, 39, 40, 41, 42, 43, 44, 45, 59, 60, 61, 62, 63, 64, 65, 66] (by decide +kernel) (by decide +kernel)
set_option maxRecDepth 20000 in
theorem gX6_yearOfTrial_X0_passYear : GoodIn wsX6_yearOfTrial (wsV RX6 266 RX0 yX0_passYear wsX0_passYear) := goodIn_app (goodIn_of _ (by decide +kernel)) ggX6_yearOfTrial_X0_passYear
theorem dX6_yearOfTrial_0 : decode cX6_yearOfTrial 0 = .ok (.aload_n 0, 1) := by decide +kernel
theorem dX6_yearOfTrial_1 : decode cX6_yearOfTrial 1 = .ok (.getfield 22, 3) := by decide +kernel
theorem dX6_yearOfTrial_4 : decode cX6_yearOfTrial 4 = .ok (.aload_n 0, 1) := by decide +kernel
theorem dX6_yearOfTrial_5 : decode cX6_yearOfTrial 5 = .ok (.getfield 10, 3) := by decide +kernel
theorem dX6_yearOfTrial_8 : decode cX6_yearOfTrial 8 = .ok (.getfield 59, 3) := by decide +kernel
theorem dX6_yearOfTrial_11 : decode cX6_yearOfTrial 11 = .ok (.aload_n 0, 1) := by decide +kernel
theorem dX6_yearOfTrial_12 : decode cX6_yearOfTrial 12 = .ok (.getfield 22, 3) := by decide +kernel
theorem dX6_yearOfTrial_15 : decode cX6_yearOfTrial 15 = .ok (.getfield 99, 3) := by decide +kernel
theorem dX6_yearOfTrial_18 : decode cX6_yearOfTrial 18 = .ok (.invokevirtual 102, 3) := by decide +kernel
theorem dX6_yearOfTrial_21 : decode cX6_yearOfTrial 21 = .ok (.invokevirtual 266, 3) := by decide +kernel
theorem dX6_yearOfTrial_24 : decode cX6_yearOfTrial 24 = .ok (.ireturn, 1) := by decide +kernel
set_option maxRecDepth 20000 in
theorem ggX6_leaksOfTrial_X6_leaksOfTrialUpTo : GoodIn wsX6_leaksOfTrial wsX6_leaksOfTrialUpTo := goodIn_r _ [6, 7, 8, 9, 5, 10, 11, 12, 13, 14, 15, 16, 17, 18, 19, 20, 21, 22, 23, 24, 25, 26, 27, 28, 29, 30, 31, 32, 33, 34, 35, 36, 37, 38, 39, 40, 41, 42, 43, 44, 45, 46, 47, 48, 49, 50, 51, 52, 53, 54, 55, 56, 57, 58, 59, 60, 61, 62, 63, 64, 65, 66, 67, 68, 69, 70, 71, 72, 73, 74, 75, 76, 77, 78] (by decide +kernel) (by decide +kernel)
set_option maxRecDepth 20000 in
theorem gX6_leaksOfTrial_X6_leaksOfTrialUpTo : GoodIn wsX6_leaksOfTrial (wsV RX6 174 RX6 yX6_leaksOfTrialUpTo wsX6_leaksOfTrialUpTo) := goodIn_app (goodIn_of _ (by decide +kernel)) ggX6_leaksOfTrial_X6_leaksOfTrialUpTo
theorem dX6_leaksOfTrial_0 : decode cX6_leaksOfTrial 0 = .ok (.aload_n 0, 1) := by decide +kernel
theorem dX6_leaksOfTrial_1 : decode cX6_leaksOfTrial 1 = .ok (.iload_n 1, 1) := by decide +kernel
theorem dX6_leaksOfTrial_2 : decode cX6_leaksOfTrial 2 = .ok (.ldc 177, 2) := by decide +kernel
theorem dX6_leaksOfTrial_4 : decode cX6_leaksOfTrial 4 = .ok (.invokevirtual 174, 3) := by decide +kernel
theorem dX6_leaksOfTrial_7 : decode cX6_leaksOfTrial 7 = .ok (.ireturn, 1) := by decide +kernel
set_option maxRecDepth 20000 in
theorem ggX6_leaksOfTrialUpTo_X6_yearOfTrial : GoodIn wsX6_leaksOfTrialUpTo wsX6_yearOfTrial := goodIn_r _ [5, 6, 7, 8, 9, 10, 11, 12, 13, 14, 15, 16, 17, 18, 19, 20, 21, 22, 23, 24, 25, 26, 27, 28, 29, 30, 31, 32, 33, 34, 35, 36, 37, 38, 39, 40, 41, 42, 43, 44, 45, 46, 47, 48, 49, 50, 51, 52, 53, 54, 55, 56, 57, 58, 59, 60, 61, 62, 63, 64, 65, 66, 67, 68, 69, 70, 71, 72, 73] (by decide +kernel) (by decide +kernel)
set_option maxRecDepth 20000 in
theorem gX6_leaksOfTrialUpTo_X6_yearOfTrial : GoodIn wsX6_leaksOfTrialUpTo (wsV RX6 168 RX6 yX6_yearOfTrial wsX6_yearOfTrial) := goodIn_app (goodIn_of _ (by decide +kernel)) ggX6_leaksOfTrialUpTo_X6_yearOfTrial
theorem dX6_leaksOfTrialUpTo_0 : decode cX6_leaksOfTrialUpTo 0 = .ok (.iconst 0, 1) := by decide +kernel
theorem dX6_leaksOfTrialUpTo_1 : decode cX6_leaksOfTrialUpTo 1 = .ok (.istore_n 3, 1) := by decide +kernel
theorem dX6_leaksOfTrialUpTo_2 : decode cX6_leaksOfTrialUpTo 2 = .ok (.iconst 0, 1) := by decide +kernel
theorem dX6_leaksOfTrialUpTo_3 : decode cX6_leaksOfTrialUpTo 3 = .ok (.istore 4, 2) := by decide +kernel
theorem dX6_leaksOfTrialUpTo_5 : decode cX6_leaksOfTrialUpTo 5 = .ok (.iload 4, 2) := by decide +kernel
theorem dX6_leaksOfTrialUpTo_7 : decode cX6_leaksOfTrialUpTo 7 = .ok (.iload_n 1, 1) := by decide +kernel
theorem dX6_leaksOfTrialUpTo_8 : decode cX6_leaksOfTrialUpTo 8 = .ok (.if_icmp .ge 21, 3) := by decide +kernel
theorem dX6_leaksOfTrialUpTo_11 : decode cX6_leaksOfTrialUpTo 11 = .ok (.iload_n 3, 1) := by decide +kernel
theorem dX6_leaksOfTrialUpTo_12 : decode cX6_leaksOfTrialUpTo 12 = .ok (.iload_n 2, 1) := by decide +kernel
theorem dX6_leaksOfTrialUpTo_13 : decode cX6_leaksOfTrialUpTo 13 = .ok (.if_icmp .gt 16, 3) := by decide +kernel
theorem dX6_leaksOfTrialUpTo_16 : decode cX6_leaksOfTrialUpTo 16 = .ok (.iload_n 3, 1) := by decide +kernel
theorem dX6_leaksOfTrialUpTo_17 : decode cX6_leaksOfTrialUpTo 17 = .ok (.aload_n 0, 1) := by decide +kernel
theorem dX6_leaksOfTrialUpTo_18 : decode cX6_leaksOfTrialUpTo 18 = .ok (.invokevirtual 168, 3) := by decide +kernel
theorem dX6_leaksOfTrialUpTo_21 : decode cX6_leaksOfTrialUpTo 21 = .ok (.iadd, 1) := by decide +kernel
theorem dX6_leaksOfTrialUpTo_22 : decode cX6_leaksOfTrialUpTo 22 = .ok (.istore_n 3, 1) := by decide +kernel
theorem dX6_leaksOfTrialUpTo_23 : decode cX6_leaksOfTrialUpTo 23 = .ok (.iinc 4 1, 3) := by decide +kernel
theorem dX6_leaksOfTrialUpTo_26 : decode cX6_leaksOfTrialUpTo 26 = .ok (.goto (-21), 3) := by decide +kernel
theorem dX6_leaksOfTrialUpTo_29 : decode cX6_leaksOfTrialUpTo 29 = .ok (.iload_n 3, 1) := by decide +kernel
theorem dX6_leaksOfTrialUpTo_30 : decode cX6_leaksOfTrialUpTo 30 = .ok (.ireturn, 1) := by decide +kernel
set_option maxRecDepth 20000 in
theorem ggX6_findBestParting_X2_begin : GoodIn wsX6_findBestParting wsX2_begin := goodIn_r _ [13, 14, 15, 16, 17, 18, 132, 133, 134, 135, 136] (by decide +kernel) (by decide +kernel)
set_option maxRecDepth 20000 in
theorem gX6_findBestParting_X2_begin : GoodIn wsX6_findBestParting (wsV RX6 272 RX2 yX2_begin wsX2_begin) := goodIn_app (goodIn_of _ (by decide +kernel)) ggX6_findBestParting_X2_begin
set_option maxRecDepth 20000 in
theorem ggX6_findBestParting_X6_startTrial : GoodIn wsX6_findBestParting wsX6_startTrial := goodIn_r _ [23, 6, 2, 3, 24, 25, 26, 27, 28, 29, 30, 31, 32, 33, 34, 35, 36, 37, 38, 39, 40, 41, 42, 43, 44, 111, 112, 113, 114, 115, 116, 117, 118, 119, 120, 121, 122, 123, 124, 125, 126, 127, 128, 129, 130, 131] (by decide +kernel) (by decide +kernel)
set_option maxRecDepth 20000 in
theorem gX6_findBestParting_X6_startTrial : GoodIn wsX6_findBestParting (wsV RX6 162 RX6 yX6_startTrial wsX6_startTrial) := goodIn_app (goodIn_of _ (by decide +kernel)) ggX6_findBestParting_X6_startTrial
set_option maxRecDepth 20000 in
theorem ggX6_findBestParting_X0_thicken : GoodIn wsX6_findBestParting wsX0_thicken := goodIn_r _ [48, 36, 42, 49, 50, 51, 52, 124, 125, 126, 127, 128, 129, 130, 131] (by decide +kernel) (by decide +kernel)
set_option maxRecDepth 20000 in
theorem gX6_findBestParting_X0_thicken : GoodIn wsX6_findBestParting (wsV RX6 277 RX0 yX0_thicken wsX0_thicken) := goodIn_app (goodIn_of _ (by decide +kernel)) ggX6_findBestParting_X0_thicken
set_option maxRecDepth 20000 in
theorem ggX6_findBestParting_X6_leaksOfTrialUpTo : GoodIn wsX6_findBestParting wsX6_leaksOfTrialUpTo := goodIn_r _ [56, 57, 58, 59, 22, 60, 6, 2, 61, 62, 63, 64, 65, 66, 67, 68, 69, 70, 71, 72, 27, 73, 36, 49, 50, 51, 52, 30, 29, 74, 75, 76, 77, 37, 42, 78, 79, 80, 81, 43, 82, 83, 84, 85, 86, 87, 88, 89, 90, 91, 92, 111, 112, 113, 114, 115, 116, 117, 118, 119, 120, 121, 122, 123, 124, 125, 126, 127, 128, 129, 130, 131, 137, 138] (by decide +kernel) (by decide +kernel)
set_option maxRecDepth 20000 in
theorem gX6_findBestParting_X6_leaksOfTrialUpTo : GoodIn wsX6_findBestParting (wsV RX6 174 RX6 yX6_leaksOfTrialUpTo wsX6_leaksOfTrialUpTo) := goodIn_app (goodIn_of _ (by decide +kernel)) ggX6_findBestParting_X6_leaksOfTrialUpTo
set_option maxRecDepth 20000 in
theorem ggX6_findBestParting_X0_heaviness : GoodIn wsX6_findBestParting wsX0_heaviness := goodIn_r _ [96, 36, 97, 98, 99, 27, 100, 42, 43, 124, 125, 126, 127, 128, 129, 130, 131] (by decide +kernel) (by decide +kernel)
set_option maxRecDepth 20000 in
theorem gX6_findBestParting_X0_heaviness : GoodIn wsX6_findBestParting (wsV RX6 121 RX0 yX0_heaviness wsX0_heaviness) := goodIn_app (goodIn_of _ (by decide +kernel)) ggX6_findBestParting_X0_heaviness
set_option maxRecDepth 20000 in
theorem ggX6_findBestParting_X2_keepIfBetter : GoodIn wsX6_findBestParting wsX2_keepIfBetter := goodIn_r _ [104, 16, 17, 18, 105, 106, 39, 40, 41, 132, 133, 134, 135, 136] (by decide +kernel) (by decide +kernel)
set_option maxRecDepth 20000 in
theorem gX6_findBestParting_X2_keepIfBetter : GoodIn wsX6_findBestParting (wsV RX6 281 RX2 yX2_keepIfBetter wsX2_keepIfBetter) := goodIn_app (goodIn_of _ (by decide +kernel)) ggX6_findBestParting_X2_keepIfBetter
set_option maxRecDepth 20000 in
theorem ggX6_findBestParting_X2_advance : GoodIn wsX6_findBestParting wsX2_advance := goodIn_r _ [110, 14, 18, 132, 133, 134, 135, 136] (by decide +kernel) (by decide +kernel)
set_option maxRecDepth 20000 in
theorem gX6_findBestParting_X2_advance : GoodIn wsX6_findBestParting (wsV RX6 284 RX2 yX2_advance wsX2_advance) := goodIn_app (goodIn_of _ (by decide +kernel)) ggX6_findBestParting_X2_advance
theorem dX6_findBestParting_0 : decode cX6_findBestParting 0 = .ok (.aload_n 0, 1) := by decide +kernel
theorem dX6_findBestParting_1 : decode cX6_findBestParting 1 = .ok (.getfield 29, 3) := by decide +kernel
theorem dX6_findBestParting_4 : decode cX6_findBestParting 4 = .ok (.aload_n 0, 1) := by decide +kernel
theorem dX6_findBestParting_5 : decode cX6_findBestParting 5 = .ok (.getfield 10, 3) := by decide +kernel
theorem dX6_findBestParting_8 : decode cX6_findBestParting 8 = .ok (.getfield 72, 3) := by decide +kernel
theorem dX6_findBestParting_11 : decode cX6_findBestParting 11 = .ok (.getfield 117, 3) := by decide +kernel
theorem dX6_findBestParting_14 : decode cX6_findBestParting 14 = .ok (.iload_n 1, 1) := by decide +kernel
theorem dX6_findBestParting_15 : decode cX6_findBestParting 15 = .ok (.invokevirtual 272, 3) := by decide +kernel
theorem dX6_findBestParting_18 : decode cX6_findBestParting 18 = .ok (.iconst 0, 1) := by decide +kernel
theorem dX6_findBestParting_19 : decode cX6_findBestParting 19 = .ok (.istore_n 3, 1) := by decide +kernel
theorem dX6_findBestParting_20 : decode cX6_findBestParting 20 = .ok (.iload_n 3, 1) := by decide +kernel
theorem dX6_findBestParting_21 : decode cX6_findBestParting 21 = .ok (.ldc_w 273, 3) := by decide +kernel
theorem dX6_findBestParting_24 : decode cX6_findBestParting 24 = .ok (.if_icmp .ge 80, 3) := by decide +kernel
theorem dX6_findBestParting_27 : decode cX6_findBestParting 27 = .ok (.aload_n 0, 1) := by decide +kernel
theorem dX6_findBestParting_28 : decode cX6_findBestParting 28 = .ok (.invokevirtual 162, 3) := by decide +kernel
theorem dX6_findBestParting_31 : decode cX6_findBestParting 31 = .ok (.aload_n 0, 1) := by decide +kernel
theorem dX6_findBestParting_32 : decode cX6_findBestParting 32 = .ok (.getfield 22, 3) := by decide +kernel
theorem dX6_findBestParting_35 : decode cX6_findBestParting 35 = .ok (.aload_n 0, 1) := by decide +kernel
theorem dX6_findBestParting_36 : decode cX6_findBestParting 36 = .ok (.getfield 29, 3) := by decide +kernel
theorem dX6_findBestParting_39 : decode cX6_findBestParting 39 = .ok (.getfield 274, 3) := by decide +kernel
theorem dX6_findBestParting_42 : decode cX6_findBestParting 42 = .ok (.invokevirtual 277, 3) := by decide +kernel
theorem dX6_findBestParting_45 : decode cX6_findBestParting 45 = .ok (.aload_n 0, 1) := by decide +kernel
theorem dX6_findBestParting_46 : decode cX6_findBestParting 46 = .ok (.iload_n 2, 1) := by decide +kernel
theorem dX6_findBestParting_47 : decode cX6_findBestParting 47 = .ok (.aload_n 0, 1) := by decide +kernel
theorem dX6_findBestParting_48 : decode cX6_findBestParting 48 = .ok (.getfield 29, 3) := by decide +kernel
theorem dX6_findBestParting_51 : decode cX6_findBestParting 51 = .ok (.getfield 185, 3) := by decide +kernel
theorem dX6_findBestParting_54 : decode cX6_findBestParting 54 = .ok (.invokevirtual 174, 3) := by decide +kernel
theorem dX6_findBestParting_57 : decode cX6_findBestParting 57 = .ok (.istore 4, 2) := by decide +kernel
theorem dX6_findBestParting_59 : decode cX6_findBestParting 59 = .ok (.iload 4, 2) := by decide +kernel
theorem dX6_findBestParting_61 : decode cX6_findBestParting 61 = .ok (.aload_n 0, 1) := by decide +kernel
theorem dX6_findBestParting_62 : decode cX6_findBestParting 62 = .ok (.getfield 29, 3) := by decide +kernel
theorem dX6_findBestParting_65 : decode cX6_findBestParting 65 = .ok (.getfield 185, 3) := by decide +kernel
theorem dX6_findBestParting_68 : decode cX6_findBestParting 68 = .ok (.if_icmp .gt 19, 3) := by decide +kernel
theorem dX6_findBestParting_71 : decode cX6_findBestParting 71 = .ok (.aload_n 0, 1) := by decide +kernel
theorem dX6_findBestParting_72 : decode cX6_findBestParting 72 = .ok (.getfield 29, 3) := by decide +kernel
theorem dX6_findBestParting_75 : decode cX6_findBestParting 75 = .ok (.iload 4, 2) := by decide +kernel
theorem dX6_findBestParting_77 : decode cX6_findBestParting 77 = .ok (.aload_n 0, 1) := by decide +kernel
theorem dX6_findBestParting_78 : decode cX6_findBestParting 78 = .ok (.getfield 22, 3) := by decide +kernel
theorem dX6_findBestParting_81 : decode cX6_findBestParting 81 = .ok (.invokevirtual 121, 3) := by decide +kernel
theorem dX6_findBestParting_84 : decode cX6_findBestParting 84 = .ok (.invokevirtual 281, 3) := by decide +kernel
theorem dX6_findBestParting_87 : decode cX6_findBestParting 87 = .ok (.aload_n 0, 1) := by decide +kernel
theorem dX6_findBestParting_88 : decode cX6_findBestParting 88 = .ok (.getfield 29, 3) := by decide +kernel
theorem dX6_findBestParting_91 : decode cX6_findBestParting 91 = .ok (.invokevirtual 284, 3) := by decide +kernel
theorem dX6_findBestParting_94 : decode cX6_findBestParting 94 = .ok (.ifCond .ne 4, 3) := by decide +kernel
theorem dX6_findBestParting_97 : decode cX6_findBestParting 97 = .ok (.return_, 1) := by decide +kernel
theorem dX6_findBestParting_98 : decode cX6_findBestParting 98 = .ok (.iinc 3 1, 3) := by decide +kernel
theorem dX6_findBestParting_101 : decode cX6_findBestParting 101 = .ok (.goto (-81), 3) := by decide +kernel
theorem dX6_findBestParting_104 : decode cX6_findBestParting 104 = .ok (.return_, 1) := by decide +kernel
set_option maxRecDepth 20000 in
theorem ggX6_staysDry_X6_startTrial : GoodIn wsX6_staysDry wsX6_startTrial := goodIn_r _ [9, 3, 1, 10, 11, 12, 13, 14, 15, 16, 17, 18, 19, 20, 21, 22, 23, 24, 25, 26, 27, 28, 29, 30, 31, 66, 67, 68, 69, 70, 71, 72, 73, 74, 75, 76, 77, 78, 79, 80, 81, 82, 83, 84, 85, 86] (by decide +kernel) (by decide +kernel)
set_option maxRecDepth 20000 in
theorem gX6_staysDry_X6_startTrial : GoodIn wsX6_staysDry (wsV RX6 162 RX6 yX6_startTrial wsX6_startTrial) := goodIn_app (goodIn_of _ (by decide +kernel)) ggX6_staysDry_X6_startTrial
set_option maxRecDepth 20000 in
theorem ggX6_staysDry_X5_inYear : GoodIn wsX6_staysDry wsX5_inYear := goodIn_r _ [36, 37, 38, 87, 88] (by decide +kernel) (by decide +kernel)
set_option maxRecDepth 20000 in
theorem gX6_staysDry_X5_inYear : GoodIn wsX6_staysDry (wsV RX6 102 RX5 yX5_inYear wsX5_inYear) := goodIn_app (goodIn_of _ (by decide +kernel)) ggX6_staysDry_X5_inYear
set_option maxRecDepth 20000 in
theorem ggX6_staysDry_X0_passYear : GoodIn wsX6_staysDry wsX0_passYear := goodIn_r _ [42, 23, 43, 44, 45, 46, 17, 16, 47, 48, 49, 14, 50, 24, 29, 51, 52, 53, 54, 30, 55, 56, 57, 58, 59, 60, 61, 62, 63, 64, 65, 79, 80, 81, 82, 83, 84, 85, 86] (by decide +kernel) (by decide +kernel)
set_option maxRecDepth 20000 in
theorem gX6_staysDry_X0_passYear : GoodIn wsX6_staysDry (wsV RX6 266 RX0 yX0_passYear wsX0_passYear) := goodIn_app (goodIn_of _ (by decide +kernel)) ggX6_staysDry_X0_passYear
theorem dX6_staysDry_0 : decode cX6_staysDry 0 = .ok (.aload_n 0, 1) := by decide +kernel
theorem dX6_staysDry_1 : decode cX6_staysDry 1 = .ok (.invokevirtual 162, 3) := by decide +kernel
theorem dX6_staysDry_4 : decode cX6_staysDry 4 = .ok (.iconst 0, 1) := by decide +kernel
theorem dX6_staysDry_5 : decode cX6_staysDry 5 = .ok (.istore_n 3, 1) := by decide +kernel
theorem dX6_staysDry_6 : decode cX6_staysDry 6 = .ok (.iload_n 3, 1) := by decide +kernel
theorem dX6_staysDry_7 : decode cX6_staysDry 7 = .ok (.iload_n 1, 1) := by decide +kernel
theorem dX6_staysDry_8 : decode cX6_staysDry 8 = .ok (.if_icmp .ge 69, 3) := by decide +kernel
theorem dX6_staysDry_11 : decode cX6_staysDry 11 = .ok (.aload_n 0, 1) := by decide +kernel
theorem dX6_staysDry_12 : decode cX6_staysDry 12 = .ok (.getfield 10, 3) := by decide +kernel
theorem dX6_staysDry_15 : decode cX6_staysDry 15 = .ok (.getfield 59, 3) := by decide +kernel
theorem dX6_staysDry_18 : decode cX6_staysDry 18 = .ok (.aload_n 0, 1) := by decide +kernel
theorem dX6_staysDry_19 : decode cX6_staysDry 19 = .ok (.getfield 22, 3) := by decide +kernel
theorem dX6_staysDry_22 : decode cX6_staysDry 22 = .ok (.getfield 99, 3) := by decide +kernel
theorem dX6_staysDry_25 : decode cX6_staysDry 25 = .ok (.invokevirtual 102, 3) := by decide +kernel
theorem dX6_staysDry_28 : decode cX6_staysDry 28 = .ok (.istore 4, 2) := by decide +kernel
theorem dX6_staysDry_30 : decode cX6_staysDry 30 = .ok (.iload_n 2, 1) := by decide +kernel
theorem dX6_staysDry_31 : decode cX6_staysDry 31 = .ok (.iload_n 3, 1) := by decide +kernel
theorem dX6_staysDry_32 : decode cX6_staysDry 32 = .ok (.ishr, 1) := by decide +kernel
theorem dX6_staysDry_33 : decode cX6_staysDry 33 = .ok (.iconst 1, 1) := by decide +kernel
theorem dX6_staysDry_34 : decode cX6_staysDry 34 = .ok (.iand, 1) := by decide +kernel
theorem dX6_staysDry_35 : decode cX6_staysDry 35 = .ok (.ifCond .eq 7, 3) := by decide +kernel
theorem dX6_staysDry_38 : decode cX6_staysDry 38 = .ok (.iconst 1, 1) := by decide +kernel
theorem dX6_staysDry_39 : decode cX6_staysDry 39 = .ok (.goto 4, 3) := by decide +kernel
theorem dX6_staysDry_42 : decode cX6_staysDry 42 = .ok (.iconst 0, 1) := by decide +kernel
theorem dX6_staysDry_43 : decode cX6_staysDry 43 = .ok (.istore 5, 2) := by decide +kernel
theorem dX6_staysDry_45 : decode cX6_staysDry 45 = .ok (.aload_n 0, 1) := by decide +kernel
theorem dX6_staysDry_46 : decode cX6_staysDry 46 = .ok (.getfield 22, 3) := by decide +kernel
theorem dX6_staysDry_49 : decode cX6_staysDry 49 = .ok (.iload 5, 2) := by decide +kernel
theorem dX6_staysDry_51 : decode cX6_staysDry 51 = .ok (.ifCond .eq 10, 3) := by decide +kernel
theorem dX6_staysDry_54 : decode cX6_staysDry 54 = .ok (.iconst 2, 1) := by decide +kernel
theorem dX6_staysDry_55 : decode cX6_staysDry 55 = .ok (.iload 4, 2) := by decide +kernel
theorem dX6_staysDry_57 : decode cX6_staysDry 57 = .ok (.imul, 1) := by decide +kernel
theorem dX6_staysDry_58 : decode cX6_staysDry 58 = .ok (.goto 5, 3) := by decide +kernel
theorem dX6_staysDry_61 : decode cX6_staysDry 61 = .ok (.iload 4, 2) := by decide +kernel
theorem dX6_staysDry_63 : decode cX6_staysDry 63 = .ok (.invokevirtual 266, 3) := by decide +kernel
theorem dX6_staysDry_66 : decode cX6_staysDry 66 = .ok (.ifCond .le 5, 3) := by decide +kernel
theorem dX6_staysDry_69 : decode cX6_staysDry 69 = .ok (.iconst 0, 1) := by decide +kernel
theorem dX6_staysDry_70 : decode cX6_staysDry 70 = .ok (.ireturn, 1) := by decide +kernel
theorem dX6_staysDry_71 : decode cX6_staysDry 71 = .ok (.iinc 3 1, 3) := by decide +kernel
theorem dX6_staysDry_74 : decode cX6_staysDry 74 = .ok (.goto (-68), 3) := by decide +kernel
theorem dX6_staysDry_77 : decode cX6_staysDry 77 = .ok (.iconst 1, 1) := by decide +kernel
theorem dX6_staysDry_78 : decode cX6_staysDry 78 = .ok (.ireturn, 1) := by decide +kernel
set_option maxRecDepth 20000 in
theorem ggX6_kindsThatFit_X6_startTrial : GoodIn wsX6_kindsThatFit wsX6_startTrial := goodIn_r _ [7, 1, 8, 9, 10, 11, 12, 13, 14, 15, 16, 17, 18, 19, 20, 21, 22, 23, 24, 25, 26, 27, 28, 29, 30, 76, 77, 78, 79, 80, 81, 82, 91, 92, 93, 94, 95, 96, 83, 84, 85, 86, 87, 88, 89, 90] (by decide +kernel) (by decide +kernel)
set_option maxRecDepth 20000 in
theorem gX6_kindsThatFit_X6_startTrial : GoodIn wsX6_kindsThatFit (wsV RX6 162 RX6 yX6_startTrial wsX6_startTrial) := goodIn_app (goodIn_of _ (by decide +kernel)) ggX6_kindsThatFit_X6_startTrial
set_option maxRecDepth 20000 in
theorem ggX6_kindsThatFit_X6_trialLeaksAs : GoodIn wsX6_kindsThatFit wsX6_trialLeaksAs := goodIn_r _ [34, 35, 36, 37, 38, 6, 39, 1, 8, 40, 41, 42, 43, 44, 45, 46, 47, 48, 49, 50, 51, 13, 52, 22, 53, 54, 55, 56, 16, 15, 57, 58, 59, 60, 23, 28, 61, 62, 63, 64, 29, 65, 66, 67, 68, 69, 70, 71, 72, 73, 74, 75, 97, 98, 99, 100, 76, 77, 78, 79, 80, 81, 82, 91, 92, 93, 94, 95, 96, 83, 84, 85, 86, 87, 88, 89, 90, 101, 102] (by decide +kernel) (by decide +kernel)
set_option maxRecDepth 20000 in
theorem gX6_kindsThatFit_X6_trialLeaksAs : GoodIn wsX6_kindsThatFit (wsV RX6 288 RX6 yX6_trialLeaksAs wsX6_trialLeaksAs) := goodIn_app (goodIn_of _ (by decide +kernel)) ggX6_kindsThatFit_X6_trialLeaksAs
theorem dX6_kindsThatFit_0 : decode cX6_kindsThatFit 0 = .ok (.iconst 0, 1) := by decide +kernel
theorem dX6_kindsThatFit_1 : decode cX6_kindsThatFit 1 = .ok (.istore 5, 2) := by decide +kernel
theorem dX6_kindsThatFit_3 : decode cX6_kindsThatFit 3 = .ok (.iconst 0, 1) := by decide +kernel
theorem dX6_kindsThatFit_4 : decode cX6_kindsThatFit 4 = .ok (.istore 6, 2) := by decide +kernel
theorem dX6_kindsThatFit_6 : decode cX6_kindsThatFit 6 = .ok (.iload 6, 2) := by decide +kernel
theorem dX6_kindsThatFit_8 : decode cX6_kindsThatFit 8 = .ok (.iconst 5, 1) := by decide +kernel
theorem dX6_kindsThatFit_9 : decode cX6_kindsThatFit 9 = .ok (.if_icmp .ge 44, 3) := by decide +kernel
theorem dX6_kindsThatFit_12 : decode cX6_kindsThatFit 12 = .ok (.aload_n 0, 1) := by decide +kernel
theorem dX6_kindsThatFit_13 : decode cX6_kindsThatFit 13 = .ok (.invokevirtual 162, 3) := by decide +kernel
theorem dX6_kindsThatFit_16 : decode cX6_kindsThatFit 16 = .ok (.aload_n 0, 1) := by decide +kernel
theorem dX6_kindsThatFit_17 : decode cX6_kindsThatFit 17 = .ok (.getfield 22, 3) := by decide +kernel
theorem dX6_kindsThatFit_20 : decode cX6_kindsThatFit 20 = .ok (.getfield 79, 3) := by decide +kernel
theorem dX6_kindsThatFit_23 : decode cX6_kindsThatFit 23 = .ok (.iload_n 1, 1) := by decide +kernel
theorem dX6_kindsThatFit_24 : decode cX6_kindsThatFit 24 = .ok (.iload 6, 2) := by decide +kernel
theorem dX6_kindsThatFit_26 : decode cX6_kindsThatFit 26 = .ok (.iastore, 1) := by decide +kernel
theorem dX6_kindsThatFit_27 : decode cX6_kindsThatFit 27 = .ok (.aload_n 0, 1) := by decide +kernel
theorem dX6_kindsThatFit_28 : decode cX6_kindsThatFit 28 = .ok (.aload_n 2, 1) := by decide +kernel
theorem dX6_kindsThatFit_29 : decode cX6_kindsThatFit 29 = .ok (.iload_n 3, 1) := by decide +kernel
theorem dX6_kindsThatFit_30 : decode cX6_kindsThatFit 30 = .ok (.iload 4, 2) := by decide +kernel
theorem dX6_kindsThatFit_32 : decode cX6_kindsThatFit 32 = .ok (.invokevirtual 288, 3) := by decide +kernel
theorem dX6_kindsThatFit_35 : decode cX6_kindsThatFit 35 = .ok (.ifCond .eq 12, 3) := by decide +kernel
theorem dX6_kindsThatFit_38 : decode cX6_kindsThatFit 38 = .ok (.iload 5, 2) := by decide +kernel
theorem dX6_kindsThatFit_40 : decode cX6_kindsThatFit 40 = .ok (.iconst 1, 1) := by decide +kernel
theorem dX6_kindsThatFit_41 : decode cX6_kindsThatFit 41 = .ok (.iload 6, 2) := by decide +kernel
theorem dX6_kindsThatFit_43 : decode cX6_kindsThatFit 43 = .ok (.ishl, 1) := by decide +kernel
theorem dX6_kindsThatFit_44 : decode cX6_kindsThatFit 44 = .ok (.ior, 1) := by decide +kernel
theorem dX6_kindsThatFit_45 : decode cX6_kindsThatFit 45 = .ok (.istore 5, 2) := by decide +kernel
theorem dX6_kindsThatFit_47 : decode cX6_kindsThatFit 47 = .ok (.iinc 6 1, 3) := by decide +kernel
theorem dX6_kindsThatFit_50 : decode cX6_kindsThatFit 50 = .ok (.goto (-44), 3) := by decide +kernel
theorem dX6_kindsThatFit_53 : decode cX6_kindsThatFit 53 = .ok (.iload 5, 2) := by decide +kernel
theorem dX6_kindsThatFit_55 : decode cX6_kindsThatFit 55 = .ok (.ireturn, 1) := by decide +kernel
set_option maxRecDepth 20000 in
theorem ggX6_thicksThatFit_X6_startTrial : GoodIn wsX6_thicksThatFit wsX6_startTrial := goodIn_r _ [7, 1, 8, 9, 10, 11, 12, 13, 14, 15, 16, 17, 18, 19, 20, 21, 22, 23, 24, 25, 26, 27, 28, 29, 30, 76, 77, 78, 79, 80, 81, 82, 91, 92, 93, 94, 95, 96, 83, 84, 85, 86, 87, 88, 89, 90] (by decide +kernel) (by decide +kernel)
set_option maxRecDepth 20000 in
theorem gX6_thicksThatFit_X6_startTrial : GoodIn wsX6_thicksThatFit (wsV RX6 162 RX6 yX6_startTrial wsX6_startTrial) := goodIn_app (goodIn_of _ (by decide +kernel)) ggX6_thicksThatFit_X6_startTrial
set_option maxRecDepth 20000 in
theorem ggX6_thicksThatFit_X6_trialLeaksAs : GoodIn wsX6_thicksThatFit wsX6_trialLeaksAs := goodIn_r _ [34, 35, 36, 37, 38, 6, 39, 1, 8, 40, 41, 42, 43, 44, 45, 46, 47, 48, 49, 50, 51, 13, 52, 22, 53, 54, 55, 56, 16, 15, 57, 58, 59, 60, 23, 28, 61, 62, 63, 64, 29, 65, 66, 67, 68, 69, 70, 71, 72, 73, 74, 75, 97, 98, 99, 100, 76, 77, 78, 79, 80, 81, 82, 91, 92, 93, 94, 95, 96, 83, 84, 85, 86, 87, 88, 89, 90, 101, 102] (by decide +kernel) (by decide +kernel)
set_option maxRecDepth 20000 in
theorem gX6_thicksThatFit_X6_trialLeaksAs : GoodIn wsX6_thicksThatFit (wsV RX6 288 RX6 yX6_trialLeaksAs wsX6_trialLeaksAs) := goodIn_app (goodIn_of _ (by decide +kernel)) ggX6_thicksThatFit_X6_trialLeaksAs
theorem dX6_thicksThatFit_0 : decode cX6_thicksThatFit 0 = .ok (.iconst 0, 1) := by decide +kernel
theorem dX6_thicksThatFit_1 : decode cX6_thicksThatFit 1 = .ok (.istore 5, 2) := by decide +kernel
theorem dX6_thicksThatFit_3 : decode cX6_thicksThatFit 3 = .ok (.iconst 1, 1) := by decide +kernel
theorem dX6_thicksThatFit_4 : decode cX6_thicksThatFit 4 = .ok (.istore 6, 2) := by decide +kernel
theorem dX6_thicksThatFit_6 : decode cX6_thicksThatFit 6 = .ok (.iload 6, 2) := by decide +kernel
theorem dX6_thicksThatFit_8 : decode cX6_thicksThatFit 8 = .ok (.bipush 20, 2) := by decide +kernel
theorem dX6_thicksThatFit_10 : decode cX6_thicksThatFit 10 = .ok (.if_icmp .gt 44, 3) := by decide +kernel
theorem dX6_thicksThatFit_13 : decode cX6_thicksThatFit 13 = .ok (.aload_n 0, 1) := by decide +kernel
theorem dX6_thicksThatFit_14 : decode cX6_thicksThatFit 14 = .ok (.invokevirtual 162, 3) := by decide +kernel
theorem dX6_thicksThatFit_17 : decode cX6_thicksThatFit 17 = .ok (.aload_n 0, 1) := by decide +kernel
theorem dX6_thicksThatFit_18 : decode cX6_thicksThatFit 18 = .ok (.getfield 22, 3) := by decide +kernel
theorem dX6_thicksThatFit_21 : decode cX6_thicksThatFit 21 = .ok (.getfield 83, 3) := by decide +kernel
theorem dX6_thicksThatFit_24 : decode cX6_thicksThatFit 24 = .ok (.iload_n 1, 1) := by decide +kernel
theorem dX6_thicksThatFit_25 : decode cX6_thicksThatFit 25 = .ok (.iload 6, 2) := by decide +kernel
theorem dX6_thicksThatFit_27 : decode cX6_thicksThatFit 27 = .ok (.iastore, 1) := by decide +kernel
theorem dX6_thicksThatFit_28 : decode cX6_thicksThatFit 28 = .ok (.aload_n 0, 1) := by decide +kernel
theorem dX6_thicksThatFit_29 : decode cX6_thicksThatFit 29 = .ok (.aload_n 2, 1) := by decide +kernel
theorem dX6_thicksThatFit_30 : decode cX6_thicksThatFit 30 = .ok (.iload_n 3, 1) := by decide +kernel
theorem dX6_thicksThatFit_31 : decode cX6_thicksThatFit 31 = .ok (.iload 4, 2) := by decide +kernel
theorem dX6_thicksThatFit_33 : decode cX6_thicksThatFit 33 = .ok (.invokevirtual 288, 3) := by decide +kernel
theorem dX6_thicksThatFit_36 : decode cX6_thicksThatFit 36 = .ok (.ifCond .eq 12, 3) := by decide +kernel
theorem dX6_thicksThatFit_39 : decode cX6_thicksThatFit 39 = .ok (.iload 5, 2) := by decide +kernel
theorem dX6_thicksThatFit_41 : decode cX6_thicksThatFit 41 = .ok (.iconst 1, 1) := by decide +kernel
theorem dX6_thicksThatFit_42 : decode cX6_thicksThatFit 42 = .ok (.iload 6, 2) := by decide +kernel
theorem dX6_thicksThatFit_44 : decode cX6_thicksThatFit 44 = .ok (.ishl, 1) := by decide +kernel
theorem dX6_thicksThatFit_45 : decode cX6_thicksThatFit 45 = .ok (.ior, 1) := by decide +kernel
theorem dX6_thicksThatFit_46 : decode cX6_thicksThatFit 46 = .ok (.istore 5, 2) := by decide +kernel
theorem dX6_thicksThatFit_48 : decode cX6_thicksThatFit 48 = .ok (.iinc 6 1, 3) := by decide +kernel
theorem dX6_thicksThatFit_51 : decode cX6_thicksThatFit 51 = .ok (.goto (-45), 3) := by decide +kernel
theorem dX6_thicksThatFit_54 : decode cX6_thicksThatFit 54 = .ok (.iload 5, 2) := by decide +kernel
theorem dX6_thicksThatFit_56 : decode cX6_thicksThatFit 56 = .ok (.ireturn, 1) := by decide +kernel
set_option maxRecDepth 20000 in
theorem ggX6_trialLeaksAs_X6_yearOfTrial : GoodIn wsX6_trialLeaksAs wsX6_yearOfTrial := goodIn_r _ [6, 7, 8, 9, 10, 11, 12, 13, 14, 15, 16, 17, 18, 19, 20, 21, 22, 23, 24, 25, 26, 27, 28, 29, 30, 31, 32, 33, 34, 35, 36, 37, 38, 39, 40, 41, 42, 43, 44, 45, 46, 47, 48, 49, 50, 51, 56, 57, 58, 59, 60, 61, 62, 63, 64, 65, 66, 67, 68, 69, 70, 71, 72, 73, 74, 75, 76, 77, 78] (by decide +kernel) (by decide +kernel)
set_option maxRecDepth 20000 in
theorem gX6_trialLeaksAs_X6_yearOfTrial : GoodIn wsX6_trialLeaksAs (wsV RX6 168 RX6 yX6_yearOfTrial wsX6_yearOfTrial) := goodIn_app (goodIn_of _ (by decide +kernel)) ggX6_trialLeaksAs_X6_yearOfTrial
theorem dX6_trialLeaksAs_0 : decode cX6_trialLeaksAs 0 = .ok (.iconst 0, 1) := by decide +kernel
theorem dX6_trialLeaksAs_1 : decode cX6_trialLeaksAs 1 = .ok (.istore 4, 2) := by decide +kernel
theorem dX6_trialLeaksAs_3 : decode cX6_trialLeaksAs 3 = .ok (.iload 4, 2) := by decide +kernel
theorem dX6_trialLeaksAs_5 : decode cX6_trialLeaksAs 5 = .ok (.iload_n 3, 1) := by decide +kernel
theorem dX6_trialLeaksAs_6 : decode cX6_trialLeaksAs 6 = .ok (.if_icmp .ge 29, 3) := by decide +kernel
theorem dX6_trialLeaksAs_9 : decode cX6_trialLeaksAs 9 = .ok (.aload_n 1, 1) := by decide +kernel
theorem dX6_trialLeaksAs_10 : decode cX6_trialLeaksAs 10 = .ok (.getfield 253, 3) := by decide +kernel
theorem dX6_trialLeaksAs_13 : decode cX6_trialLeaksAs 13 = .ok (.iload_n 2, 1) := by decide +kernel
theorem dX6_trialLeaksAs_14 : decode cX6_trialLeaksAs 14 = .ok (.iload 4, 2) := by decide +kernel
theorem dX6_trialLeaksAs_16 : decode cX6_trialLeaksAs 16 = .ok (.iadd, 1) := by decide +kernel
theorem dX6_trialLeaksAs_17 : decode cX6_trialLeaksAs 17 = .ok (.laload, 1) := by decide +kernel
theorem dX6_trialLeaksAs_18 : decode cX6_trialLeaksAs 18 = .ok (.aload_n 0, 1) := by decide +kernel
theorem dX6_trialLeaksAs_19 : decode cX6_trialLeaksAs 19 = .ok (.invokevirtual 168, 3) := by decide +kernel
theorem dX6_trialLeaksAs_22 : decode cX6_trialLeaksAs 22 = .ok (.i2l, 1) := by decide +kernel
theorem dX6_trialLeaksAs_23 : decode cX6_trialLeaksAs 23 = .ok (.lcmp, 1) := by decide +kernel
theorem dX6_trialLeaksAs_24 : decode cX6_trialLeaksAs 24 = .ok (.ifCond .eq 5, 3) := by decide +kernel
theorem dX6_trialLeaksAs_27 : decode cX6_trialLeaksAs 27 = .ok (.iconst 0, 1) := by decide +kernel
theorem dX6_trialLeaksAs_28 : decode cX6_trialLeaksAs 28 = .ok (.ireturn, 1) := by decide +kernel
theorem dX6_trialLeaksAs_29 : decode cX6_trialLeaksAs 29 = .ok (.iinc 4 1, 3) := by decide +kernel
theorem dX6_trialLeaksAs_32 : decode cX6_trialLeaksAs 32 = .ok (.goto (-29), 3) := by decide +kernel
theorem dX6_trialLeaksAs_35 : decode cX6_trialLeaksAs 35 = .ok (.iconst 1, 1) := by decide +kernel
theorem dX6_trialLeaksAs_36 : decode cX6_trialLeaksAs 36 = .ok (.ireturn, 1) := by decide +kernel
theorem dX6_power_0 : decode cX6_power 0 = .ok (.iconst 1, 1) := by decide +kernel
theorem dX6_power_1 : decode cX6_power 1 = .ok (.istore_n 2, 1) := by decide +kernel
theorem dX6_power_2 : decode cX6_power 2 = .ok (.iconst 0, 1) := by decide +kernel
theorem dX6_power_3 : decode cX6_power 3 = .ok (.istore_n 3, 1) := by decide +kernel
theorem dX6_power_4 : decode cX6_power 4 = .ok (.iload_n 3, 1) := by decide +kernel
theorem dX6_power_5 : decode cX6_power 5 = .ok (.iload_n 1, 1) := by decide +kernel
theorem dX6_power_6 : decode cX6_power 6 = .ok (.if_icmp .ge 13, 3) := by decide +kernel
theorem dX6_power_9 : decode cX6_power 9 = .ok (.iload_n 2, 1) := by decide +kernel
theorem dX6_power_10 : decode cX6_power 10 = .ok (.iload_n 0, 1) := by decide +kernel
theorem dX6_power_11 : decode cX6_power 11 = .ok (.imul, 1) := by decide +kernel
theorem dX6_power_12 : decode cX6_power 12 = .ok (.istore_n 2, 1) := by decide +kernel
theorem dX6_power_13 : decode cX6_power 13 = .ok (.iinc 3 1, 3) := by decide +kernel
theorem dX6_power_16 : decode cX6_power 16 = .ok (.goto (-12), 3) := by decide +kernel
theorem dX6_power_19 : decode cX6_power 19 = .ok (.iload_n 2, 1) := by decide +kernel
theorem dX6_power_20 : decode cX6_power 20 = .ok (.ireturn, 1) := by decide +kernel
theorem dX6_greatestDivisor_0 : decode cX6_greatestDivisor 0 = .ok (.iload_n 0, 1) := by decide +kernel
theorem dX6_greatestDivisor_1 : decode cX6_greatestDivisor 1 = .ok (.istore_n 2, 1) := by decide +kernel
theorem dX6_greatestDivisor_2 : decode cX6_greatestDivisor 2 = .ok (.iload_n 1, 1) := by decide +kernel
theorem dX6_greatestDivisor_3 : decode cX6_greatestDivisor 3 = .ok (.istore_n 3, 1) := by decide +kernel
theorem dX6_greatestDivisor_4 : decode cX6_greatestDivisor 4 = .ok (.iconst 0, 1) := by decide +kernel
theorem dX6_greatestDivisor_5 : decode cX6_greatestDivisor 5 = .ok (.istore 4, 2) := by decide +kernel
theorem dX6_greatestDivisor_7 : decode cX6_greatestDivisor 7 = .ok (.iload 4, 2) := by decide +kernel
theorem dX6_greatestDivisor_9 : decode cX6_greatestDivisor 9 = .ok (.sipush 1000, 3) := by decide +kernel
theorem dX6_greatestDivisor_12 : decode cX6_greatestDivisor 12 = .ok (.if_icmp .ge 23, 3) := by decide +kernel
theorem dX6_greatestDivisor_15 : decode cX6_greatestDivisor 15 = .ok (.iload_n 3, 1) := by decide +kernel
theorem dX6_greatestDivisor_16 : decode cX6_greatestDivisor 16 = .ok (.ifCond .eq 19, 3) := by decide +kernel
theorem dX6_greatestDivisor_19 : decode cX6_greatestDivisor 19 = .ok (.iload_n 2, 1) := by decide +kernel
theorem dX6_greatestDivisor_20 : decode cX6_greatestDivisor 20 = .ok (.iload_n 3, 1) := by decide +kernel
theorem dX6_greatestDivisor_21 : decode cX6_greatestDivisor 21 = .ok (.irem, 1) := by decide +kernel
theorem dX6_greatestDivisor_22 : decode cX6_greatestDivisor 22 = .ok (.istore 5, 2) := by decide +kernel
theorem dX6_greatestDivisor_24 : decode cX6_greatestDivisor 24 = .ok (.iload_n 3, 1) := by decide +kernel
theorem dX6_greatestDivisor_25 : decode cX6_greatestDivisor 25 = .ok (.istore_n 2, 1) := by decide +kernel
theorem dX6_greatestDivisor_26 : decode cX6_greatestDivisor 26 = .ok (.iload 5, 2) := by decide +kernel
theorem dX6_greatestDivisor_28 : decode cX6_greatestDivisor 28 = .ok (.istore_n 3, 1) := by decide +kernel
theorem dX6_greatestDivisor_29 : decode cX6_greatestDivisor 29 = .ok (.iinc 4 1, 3) := by decide +kernel
theorem dX6_greatestDivisor_32 : decode cX6_greatestDivisor 32 = .ok (.goto (-25), 3) := by decide +kernel
theorem dX6_greatestDivisor_35 : decode cX6_greatestDivisor 35 = .ok (.iconst 1, 1) := by decide +kernel
theorem dX6_greatestDivisor_36 : decode cX6_greatestDivisor 36 = .ok (.iload_n 2, 1) := by decide +kernel
theorem dX6_greatestDivisor_37 : decode cX6_greatestDivisor 37 = .ok (.invokestatic 147, 3) := by decide +kernel
theorem dX6_greatestDivisor_40 : decode cX6_greatestDivisor 40 = .ok (.ireturn, 1) := by decide +kernel
