theorem dX7_init_0 : decode cX7_init 0 = .ok (.aload_n 0, 1) := by decide +kernel
theorem dX7_init_1 : decode cX7_init 1 = .ok (.invokespecial 1, 3) := by decide +kernel
theorem dX7_init_4 : decode cX7_init 4 = .ok (.aload_n 0, 1) := by decide +kernel
theorem dX7_init_5 : decode cX7_init 5 = .ok (.iconst 4, 1) := by decide +kernel
theorem dX7_init_6 : decode cX7_init 6 = .ok (.newarray .int, 2) := by decide +kernel
theorem dX7_init_8 : decode cX7_init 8 = .ok (.putfield 7, 3) := by decide +kernel
theorem dX7_init_11 : decode cX7_init 11 = .ok (.aload_n 0, 1) := by decide +kernel
theorem dX7_init_12 : decode cX7_init 12 = .ok (.iconst 4, 1) := by decide +kernel
theorem dX7_init_13 : decode cX7_init 13 = .ok (.newarray .int, 2) := by decide +kernel
theorem dX7_init_15 : decode cX7_init 15 = .ok (.putfield 13, 3) := by decide +kernel
theorem dX7_init_18 : decode cX7_init 18 = .ok (.aload_n 0, 1) := by decide +kernel
theorem dX7_init_19 : decode cX7_init 19 = .ok (.bipush 96, 2) := by decide +kernel
theorem dX7_init_21 : decode cX7_init 21 = .ok (.newarray .long, 2) := by decide +kernel
theorem dX7_init_23 : decode cX7_init 23 = .ok (.putfield 16, 3) := by decide +kernel
theorem dX7_init_26 : decode cX7_init 26 = .ok (.aload_n 0, 1) := by decide +kernel
theorem dX7_init_27 : decode cX7_init 27 = .ok (.bipush 90, 2) := by decide +kernel
theorem dX7_init_29 : decode cX7_init 29 = .ok (.newarray .int, 2) := by decide +kernel
theorem dX7_init_31 : decode cX7_init 31 = .ok (.putfield 20, 3) := by decide +kernel
theorem dX7_init_34 : decode cX7_init 34 = .ok (.aload_n 0, 1) := by decide +kernel
theorem dX7_init_35 : decode cX7_init 35 = .ok (.sipush 407, 3) := by decide +kernel
theorem dX7_init_38 : decode cX7_init 38 = .ok (.newarray .int, 2) := by decide +kernel
theorem dX7_init_40 : decode cX7_init 40 = .ok (.putfield 23, 3) := by decide +kernel
theorem dX7_init_43 : decode cX7_init 43 = .ok (.aload_n 0, 1) := by decide +kernel
theorem dX7_init_44 : decode cX7_init 44 = .ok (.sipush 407, 3) := by decide +kernel
theorem dX7_init_47 : decode cX7_init 47 = .ok (.newarray .int, 2) := by decide +kernel
theorem dX7_init_49 : decode cX7_init 49 = .ok (.putfield 26, 3) := by decide +kernel
theorem dX7_init_52 : decode cX7_init 52 = .ok (.aload_n 0, 1) := by decide +kernel
theorem dX7_init_53 : decode cX7_init 53 = .ok (.sipush 407, 3) := by decide +kernel
theorem dX7_init_56 : decode cX7_init 56 = .ok (.newarray .int, 2) := by decide +kernel
theorem dX7_init_58 : decode cX7_init 58 = .ok (.putfield 29, 3) := by decide +kernel
theorem dX7_init_61 : decode cX7_init 61 = .ok (.aload_n 0, 1) := by decide +kernel
theorem dX7_init_62 : decode cX7_init 62 = .ok (.sipush 407, 3) := by decide +kernel
theorem dX7_init_65 : decode cX7_init 65 = .ok (.newarray .int, 2) := by decide +kernel
theorem dX7_init_67 : decode cX7_init 67 = .ok (.putfield 32, 3) := by decide +kernel
theorem dX7_init_70 : decode cX7_init 70 = .ok (.aload_n 0, 1) := by decide +kernel
theorem dX7_init_71 : decode cX7_init 71 = .ok (.bipush 10, 2) := by decide +kernel
theorem dX7_init_73 : decode cX7_init 73 = .ok (.newarray .int, 2) := by decide +kernel
theorem dX7_init_75 : decode cX7_init 75 = .ok (.putfield 35, 3) := by decide +kernel
theorem dX7_init_78 : decode cX7_init 78 = .ok (.aload_n 0, 1) := by decide +kernel
theorem dX7_init_79 : decode cX7_init 79 = .ok (.bipush 10, 2) := by decide +kernel
theorem dX7_init_81 : decode cX7_init 81 = .ok (.newarray .int, 2) := by decide +kernel
theorem dX7_init_83 : decode cX7_init 83 = .ok (.putfield 38, 3) := by decide +kernel
theorem dX7_init_86 : decode cX7_init 86 = .ok (.aload_n 0, 1) := by decide +kernel
theorem dX7_init_87 : decode cX7_init 87 = .ok (.bipush 10, 2) := by decide +kernel
theorem dX7_init_89 : decode cX7_init 89 = .ok (.newarray .int, 2) := by decide +kernel
theorem dX7_init_91 : decode cX7_init 91 = .ok (.putfield 41, 3) := by decide +kernel
theorem dX7_init_94 : decode cX7_init 94 = .ok (.iconst 0, 1) := by decide +kernel
theorem dX7_init_95 : decode cX7_init 95 = .ok (.istore_n 1, 1) := by decide +kernel
theorem dX7_init_96 : decode cX7_init 96 = .ok (.iload_n 1, 1) := by decide +kernel
theorem dX7_init_97 : decode cX7_init 97 = .ok (.iconst 4, 1) := by decide +kernel
theorem dX7_init_98 : decode cX7_init 98 = .ok (.if_icmp .ge 16, 3) := by decide +kernel
theorem dX7_init_101 : decode cX7_init 101 = .ok (.aload_n 0, 1) := by decide +kernel
theorem dX7_init_102 : decode cX7_init 102 = .ok (.getfield 7, 3) := by decide +kernel
theorem dX7_init_105 : decode cX7_init 105 = .ok (.iload_n 1, 1) := by decide +kernel
theorem dX7_init_106 : decode cX7_init 106 = .ok (.iconst (-1), 1) := by decide +kernel
theorem dX7_init_107 : decode cX7_init 107 = .ok (.iastore, 1) := by decide +kernel
theorem dX7_init_108 : decode cX7_init 108 = .ok (.iinc 1 1, 3) := by decide +kernel
theorem dX7_init_111 : decode cX7_init 111 = .ok (.goto (-15), 3) := by decide +kernel
theorem dX7_init_114 : decode cX7_init 114 = .ok (.aload_n 0, 1) := by decide +kernel
theorem dX7_init_115 : decode cX7_init 115 = .ok (.getfield 23, 3) := by decide +kernel
theorem dX7_init_118 : decode cX7_init 118 = .ok (.iconst 1, 1) := by decide +kernel
theorem dX7_init_119 : decode cX7_init 119 = .ok (.iconst 1, 1) := by decide +kernel
theorem dX7_init_120 : decode cX7_init 120 = .ok (.iastore, 1) := by decide +kernel
theorem dX7_init_121 : decode cX7_init 121 = .ok (.aload_n 0, 1) := by decide +kernel
theorem dX7_init_122 : decode cX7_init 122 = .ok (.getfield 23, 3) := by decide +kernel
theorem dX7_init_125 : decode cX7_init 125 = .ok (.bipush 44, 2) := by decide +kernel
theorem dX7_init_127 : decode cX7_init 127 = .ok (.bipush 80, 2) := by decide +kernel
theorem dX7_init_129 : decode cX7_init 129 = .ok (.iastore, 1) := by decide +kernel
theorem dX7_init_130 : decode cX7_init 130 = .ok (.return_, 1) := by decide +kernel
theorem dX7_in_0 : decode cX7_in 0 = .ok (.iload_n 0, 1) := by decide +kernel
theorem dX7_in_1 : decode cX7_in 1 = .ok (.iload_n 1, 1) := by decide +kernel
theorem dX7_in_2 : decode cX7_in 2 = .ok (.if_icmp .lt 12, 3) := by decide +kernel
theorem dX7_in_5 : decode cX7_in 5 = .ok (.iload_n 0, 1) := by decide +kernel
theorem dX7_in_6 : decode cX7_in 6 = .ok (.iload_n 2, 1) := by decide +kernel
theorem dX7_in_7 : decode cX7_in 7 = .ok (.if_icmp .gt 7, 3) := by decide +kernel
theorem dX7_in_10 : decode cX7_in 10 = .ok (.iconst 1, 1) := by decide +kernel
theorem dX7_in_11 : decode cX7_in 11 = .ok (.goto 4, 3) := by decide +kernel
theorem dX7_in_14 : decode cX7_in 14 = .ok (.iconst 0, 1) := by decide +kernel
theorem dX7_in_15 : decode cX7_in 15 = .ok (.ireturn, 1) := by decide +kernel
theorem dX7_has_0 : decode cX7_has 0 = .ok (.iload_n 0, 1) := by decide +kernel
theorem dX7_has_1 : decode cX7_has 1 = .ok (.iload_n 1, 1) := by decide +kernel
theorem dX7_has_2 : decode cX7_has 2 = .ok (.ishr, 1) := by decide +kernel
theorem dX7_has_3 : decode cX7_has 3 = .ok (.iconst 1, 1) := by decide +kernel
theorem dX7_has_4 : decode cX7_has 4 = .ok (.iand, 1) := by decide +kernel
theorem dX7_has_5 : decode cX7_has 5 = .ok (.iconst 1, 1) := by decide +kernel
theorem dX7_has_6 : decode cX7_has 6 = .ok (.if_icmp .ne 7, 3) := by decide +kernel
theorem dX7_has_9 : decode cX7_has 9 = .ok (.iconst 1, 1) := by decide +kernel
theorem dX7_has_10 : decode cX7_has 10 = .ok (.goto 4, 3) := by decide +kernel
theorem dX7_has_13 : decode cX7_has 13 = .ok (.iconst 0, 1) := by decide +kernel
theorem dX7_has_14 : decode cX7_has 14 = .ok (.ireturn, 1) := by decide +kernel
theorem dX7_bring_0 : decode cX7_bring 0 = .ok (.iconst 0, 1) := by decide +kernel
theorem dX7_bring_1 : decode cX7_bring 1 = .ok (.istore 5, 2) := by decide +kernel
theorem dX7_bring_3 : decode cX7_bring 3 = .ok (.iload 5, 2) := by decide +kernel
theorem dX7_bring_5 : decode cX7_bring 5 = .ok (.iload 4, 2) := by decide +kernel
theorem dX7_bring_7 : decode cX7_bring 7 = .ok (.if_icmp .ge 21, 3) := by decide +kernel
theorem dX7_bring_10 : decode cX7_bring 10 = .ok (.aload_n 2, 1) := by decide +kernel
theorem dX7_bring_11 : decode cX7_bring 11 = .ok (.iload_n 3, 1) := by decide +kernel
theorem dX7_bring_12 : decode cX7_bring 12 = .ok (.iload 5, 2) := by decide +kernel
theorem dX7_bring_14 : decode cX7_bring 14 = .ok (.iadd, 1) := by decide +kernel
theorem dX7_bring_15 : decode cX7_bring 15 = .ok (.aload_n 0, 1) := by decide +kernel
theorem dX7_bring_16 : decode cX7_bring 16 = .ok (.iload_n 1, 1) := by decide +kernel
theorem dX7_bring_17 : decode cX7_bring 17 = .ok (.iload 5, 2) := by decide +kernel
theorem dX7_bring_19 : decode cX7_bring 19 = .ok (.iadd, 1) := by decide +kernel
theorem dX7_bring_20 : decode cX7_bring 20 = .ok (.iaload, 1) := by decide +kernel
theorem dX7_bring_21 : decode cX7_bring 21 = .ok (.iastore, 1) := by decide +kernel
theorem dX7_bring_22 : decode cX7_bring 22 = .ok (.iinc 5 1, 3) := by decide +kernel
theorem dX7_bring_25 : decode cX7_bring 25 = .ok (.goto (-22), 3) := by decide +kernel
theorem dX7_bring_28 : decode cX7_bring 28 = .ok (.return_, 1) := by decide +kernel
set_option maxRecDepth 20000 in
theorem ggX7_isCoat_X7_in : GoodIn wsX7_isCoat wsX7_in := goodIn_r _ [5] (by decide +kernel) (by decide +kernel)
set_option maxRecDepth 20000 in
theorem gX7_isCoat_X7_in : GoodIn wsX7_isCoat (va_wsS RX7 44 yX7_in wsX7_in) := goodIn_app (goodIn_of _ (by decide +kernel)) ggX7_isCoat_X7_in
theorem dX7_isCoat_0 : decode cX7_isCoat 0 = .ok (.iload_n 1, 1) := by decide +kernel
theorem dX7_isCoat_1 : decode cX7_isCoat 1 = .ok (.iconst 0, 1) := by decide +kernel
theorem dX7_isCoat_2 : decode cX7_isCoat 2 = .ok (.aload_n 0, 1) := by decide +kernel
theorem dX7_isCoat_3 : decode cX7_isCoat 3 = .ok (.getfield 23, 3) := by decide +kernel
theorem dX7_isCoat_6 : decode cX7_isCoat 6 = .ok (.iconst 3, 1) := by decide +kernel
theorem dX7_isCoat_7 : decode cX7_isCoat 7 = .ok (.iaload, 1) := by decide +kernel
theorem dX7_isCoat_8 : decode cX7_isCoat 8 = .ok (.iconst 1, 1) := by decide +kernel
theorem dX7_isCoat_9 : decode cX7_isCoat 9 = .ok (.isub, 1) := by decide +kernel
theorem dX7_isCoat_10 : decode cX7_isCoat 10 = .ok (.invokestatic 44, 3) := by decide +kernel
theorem dX7_isCoat_13 : decode cX7_isCoat 13 = .ok (.ireturn, 1) := by decide +kernel
set_option maxRecDepth 20000 in
theorem ggX7_walls_X7_in : GoodIn wsX7_walls wsX7_in := goodIn_r _ [5] (by decide +kernel) (by decide +kernel)
set_option maxRecDepth 20000 in
theorem gX7_walls_X7_in : GoodIn wsX7_walls (va_wsS RX7 44 yX7_in wsX7_in) := goodIn_app (goodIn_of _ (by decide +kernel)) ggX7_walls_X7_in
theorem dX7_walls_0 : decode cX7_walls 0 = .ok (.iload_n 1, 1) := by decide +kernel
theorem dX7_walls_1 : decode cX7_walls 1 = .ok (.iconst 1, 1) := by decide +kernel
theorem dX7_walls_2 : decode cX7_walls 2 = .ok (.sipush 200, 3) := by decide +kernel
theorem dX7_walls_5 : decode cX7_walls 5 = .ok (.invokestatic 44, 3) := by decide +kernel
theorem dX7_walls_8 : decode cX7_walls 8 = .ok (.ifCond .ne 5, 3) := by decide +kernel
theorem dX7_walls_11 : decode cX7_walls 11 = .ok (.iconst (-1), 1) := by decide +kernel
theorem dX7_walls_12 : decode cX7_walls 12 = .ok (.ireturn, 1) := by decide +kernel
theorem dX7_walls_13 : decode cX7_walls 13 = .ok (.aload_n 0, 1) := by decide +kernel
theorem dX7_walls_14 : decode cX7_walls 14 = .ok (.getfield 23, 3) := by decide +kernel
theorem dX7_walls_17 : decode cX7_walls 17 = .ok (.bipush 44, 2) := by decide +kernel
theorem dX7_walls_19 : decode cX7_walls 19 = .ok (.iaload, 1) := by decide +kernel
theorem dX7_walls_20 : decode cX7_walls 20 = .ok (.istore_n 2, 1) := by decide +kernel
theorem dX7_walls_21 : decode cX7_walls 21 = .ok (.aload_n 0, 1) := by decide +kernel
theorem dX7_walls_22 : decode cX7_walls 22 = .ok (.getfield 23, 3) := by decide +kernel
theorem dX7_walls_25 : decode cX7_walls 25 = .ok (.bipush 44, 2) := by decide +kernel
theorem dX7_walls_27 : decode cX7_walls 27 = .ok (.iload_n 1, 1) := by decide +kernel
theorem dX7_walls_28 : decode cX7_walls 28 = .ok (.iastore, 1) := by decide +kernel
theorem dX7_walls_29 : decode cX7_walls 29 = .ok (.iload_n 2, 1) := by decide +kernel
theorem dX7_walls_30 : decode cX7_walls 30 = .ok (.ireturn, 1) := by decide +kernel
theorem dX7_addRain_0 : decode cX7_addRain 0 = .ok (.aload_n 0, 1) := by decide +kernel
theorem dX7_addRain_1 : decode cX7_addRain 1 = .ok (.bipush 46, 2) := by decide +kernel
theorem dX7_addRain_3 : decode cX7_addRain 3 = .ok (.aload_n 0, 1) := by decide +kernel
theorem dX7_addRain_4 : decode cX7_addRain 4 = .ok (.bipush 45, 2) := by decide +kernel
theorem dX7_addRain_6 : decode cX7_addRain 6 = .ok (.iaload, 1) := by decide +kernel
theorem dX7_addRain_7 : decode cX7_addRain 7 = .ok (.iadd, 1) := by decide +kernel
theorem dX7_addRain_8 : decode cX7_addRain 8 = .ok (.iload_n 1, 1) := by decide +kernel
theorem dX7_addRain_9 : decode cX7_addRain 9 = .ok (.iastore, 1) := by decide +kernel
theorem dX7_addRain_10 : decode cX7_addRain 10 = .ok (.aload_n 0, 1) := by decide +kernel
theorem dX7_addRain_11 : decode cX7_addRain 11 = .ok (.bipush 45, 2) := by decide +kernel
theorem dX7_addRain_13 : decode cX7_addRain 13 = .ok (.dup2, 1) := by decide +kernel
theorem dX7_addRain_14 : decode cX7_addRain 14 = .ok (.iaload, 1) := by decide +kernel
theorem dX7_addRain_15 : decode cX7_addRain 15 = .ok (.iconst 1, 1) := by decide +kernel
theorem dX7_addRain_16 : decode cX7_addRain 16 = .ok (.iadd, 1) := by decide +kernel
theorem dX7_addRain_17 : decode cX7_addRain 17 = .ok (.iastore, 1) := by decide +kernel
theorem dX7_addRain_18 : decode cX7_addRain 18 = .ok (.return_, 1) := by decide +kernel
set_option maxRecDepth 20000 in
theorem ggX7_rain_X7_in : GoodIn wsX7_rain wsX7_in := goodIn_r _ [5] (by decide +kernel) (by decide +kernel)
set_option maxRecDepth 20000 in
theorem gX7_rain_X7_in : GoodIn wsX7_rain (va_wsS RX7 44 yX7_in wsX7_in) := goodIn_app (goodIn_of _ (by decide +kernel)) ggX7_rain_X7_in
set_option maxRecDepth 20000 in
theorem ggX7_rain_X7_addRain : GoodIn wsX7_rain wsX7_addRain := goodIn_r _ [8] (by decide +kernel) (by decide +kernel)
set_option maxRecDepth 20000 in
theorem gX7_rain_X7_addRain : GoodIn wsX7_rain (va_wsS RX7 48 yX7_addRain wsX7_addRain) := goodIn_app (goodIn_of _ (by decide +kernel)) ggX7_rain_X7_addRain
theorem dX7_rain_0 : decode cX7_rain 0 = .ok (.iload_n 1, 1) := by decide +kernel
theorem dX7_rain_1 : decode cX7_rain 1 = .ok (.iconst 0, 1) := by decide +kernel
theorem dX7_rain_2 : decode cX7_rain 2 = .ok (.bipush 40, 2) := by decide +kernel
theorem dX7_rain_4 : decode cX7_rain 4 = .ok (.invokestatic 44, 3) := by decide +kernel
theorem dX7_rain_7 : decode cX7_rain 7 = .ok (.ifCond .ne 5, 3) := by decide +kernel
theorem dX7_rain_10 : decode cX7_rain 10 = .ok (.iconst (-1), 1) := by decide +kernel
theorem dX7_rain_11 : decode cX7_rain 11 = .ok (.ireturn, 1) := by decide +kernel
theorem dX7_rain_12 : decode cX7_rain 12 = .ok (.aload_n 0, 1) := by decide +kernel
theorem dX7_rain_13 : decode cX7_rain 13 = .ok (.getfield 23, 3) := by decide +kernel
theorem dX7_rain_16 : decode cX7_rain 16 = .ok (.bipush 45, 2) := by decide +kernel
theorem dX7_rain_18 : decode cX7_rain 18 = .ok (.iaload, 1) := by decide +kernel
theorem dX7_rain_19 : decode cX7_rain 19 = .ok (.bipush 8, 2) := by decide +kernel
theorem dX7_rain_21 : decode cX7_rain 21 = .ok (.if_icmp .ne 6, 3) := by decide +kernel
theorem dX7_rain_24 : decode cX7_rain 24 = .ok (.bipush (-3), 2) := by decide +kernel
theorem dX7_rain_26 : decode cX7_rain 26 = .ok (.ireturn, 1) := by decide +kernel
theorem dX7_rain_27 : decode cX7_rain 27 = .ok (.aload_n 0, 1) := by decide +kernel
theorem dX7_rain_28 : decode cX7_rain 28 = .ok (.getfield 23, 3) := by decide +kernel
theorem dX7_rain_31 : decode cX7_rain 31 = .ok (.iload_n 1, 1) := by decide +kernel
theorem dX7_rain_32 : decode cX7_rain 32 = .ok (.invokestatic 48, 3) := by decide +kernel
theorem dX7_rain_35 : decode cX7_rain 35 = .ok (.aload_n 0, 1) := by decide +kernel
theorem dX7_rain_36 : decode cX7_rain 36 = .ok (.getfield 23, 3) := by decide +kernel
theorem dX7_rain_39 : decode cX7_rain 39 = .ok (.bipush 45, 2) := by decide +kernel
theorem dX7_rain_41 : decode cX7_rain 41 = .ok (.iaload, 1) := by decide +kernel
theorem dX7_rain_42 : decode cX7_rain 42 = .ok (.ireturn, 1) := by decide +kernel
theorem dX7_dry_0 : decode cX7_dry 0 = .ok (.aload_n 0, 1) := by decide +kernel
theorem dX7_dry_1 : decode cX7_dry 1 = .ok (.getfield 23, 3) := by decide +kernel
theorem dX7_dry_4 : decode cX7_dry 4 = .ok (.bipush 45, 2) := by decide +kernel
theorem dX7_dry_6 : decode cX7_dry 6 = .ok (.iaload, 1) := by decide +kernel
theorem dX7_dry_7 : decode cX7_dry 7 = .ok (.istore_n 1, 1) := by decide +kernel
theorem dX7_dry_8 : decode cX7_dry 8 = .ok (.aload_n 0, 1) := by decide +kernel
theorem dX7_dry_9 : decode cX7_dry 9 = .ok (.getfield 23, 3) := by decide +kernel
theorem dX7_dry_12 : decode cX7_dry 12 = .ok (.bipush 45, 2) := by decide +kernel
theorem dX7_dry_14 : decode cX7_dry 14 = .ok (.iconst 0, 1) := by decide +kernel
theorem dX7_dry_15 : decode cX7_dry 15 = .ok (.iastore, 1) := by decide +kernel
theorem dX7_dry_16 : decode cX7_dry 16 = .ok (.iload_n 1, 1) := by decide +kernel
theorem dX7_dry_17 : decode cX7_dry 17 = .ok (.ireturn, 1) := by decide +kernel
theorem dX7_addCoat_0 : decode cX7_addCoat 0 = .ok (.aload_n 0, 1) := by decide +kernel
theorem dX7_addCoat_1 : decode cX7_addCoat 1 = .ok (.iconst 3, 1) := by decide +kernel
theorem dX7_addCoat_2 : decode cX7_addCoat 2 = .ok (.iaload, 1) := by decide +kernel
theorem dX7_addCoat_3 : decode cX7_addCoat 3 = .ok (.istore 4, 2) := by decide +kernel
theorem dX7_addCoat_5 : decode cX7_addCoat 5 = .ok (.aload_n 0, 1) := by decide +kernel
theorem dX7_addCoat_6 : decode cX7_addCoat 6 = .ok (.iconst 4, 1) := by decide +kernel
theorem dX7_addCoat_7 : decode cX7_addCoat 7 = .ok (.iload 4, 2) := by decide +kernel
theorem dX7_addCoat_9 : decode cX7_addCoat 9 = .ok (.iadd, 1) := by decide +kernel
theorem dX7_addCoat_10 : decode cX7_addCoat 10 = .ok (.iload_n 1, 1) := by decide +kernel
theorem dX7_addCoat_11 : decode cX7_addCoat 11 = .ok (.iastore, 1) := by decide +kernel
theorem dX7_addCoat_12 : decode cX7_addCoat 12 = .ok (.aload_n 0, 1) := by decide +kernel
theorem dX7_addCoat_13 : decode cX7_addCoat 13 = .ok (.bipush 14, 2) := by decide +kernel
theorem dX7_addCoat_15 : decode cX7_addCoat 15 = .ok (.iload 4, 2) := by decide +kernel
theorem dX7_addCoat_17 : decode cX7_addCoat 17 = .ok (.iadd, 1) := by decide +kernel
theorem dX7_addCoat_18 : decode cX7_addCoat 18 = .ok (.iload_n 2, 1) := by decide +kernel
theorem dX7_addCoat_19 : decode cX7_addCoat 19 = .ok (.iastore, 1) := by decide +kernel
theorem dX7_addCoat_20 : decode cX7_addCoat 20 = .ok (.aload_n 0, 1) := by decide +kernel
theorem dX7_addCoat_21 : decode cX7_addCoat 21 = .ok (.bipush 24, 2) := by decide +kernel
theorem dX7_addCoat_23 : decode cX7_addCoat 23 = .ok (.iload 4, 2) := by decide +kernel
theorem dX7_addCoat_25 : decode cX7_addCoat 25 = .ok (.iadd, 1) := by decide +kernel
theorem dX7_addCoat_26 : decode cX7_addCoat 26 = .ok (.iload_n 3, 1) := by decide +kernel
theorem dX7_addCoat_27 : decode cX7_addCoat 27 = .ok (.iastore, 1) := by decide +kernel
theorem dX7_addCoat_28 : decode cX7_addCoat 28 = .ok (.aload_n 0, 1) := by decide +kernel
theorem dX7_addCoat_29 : decode cX7_addCoat 29 = .ok (.bipush 34, 2) := by decide +kernel
theorem dX7_addCoat_31 : decode cX7_addCoat 31 = .ok (.iload 4, 2) := by decide +kernel
theorem dX7_addCoat_33 : decode cX7_addCoat 33 = .ok (.iadd, 1) := by decide +kernel
theorem dX7_addCoat_34 : decode cX7_addCoat 34 = .ok (.aload_n 0, 1) := by decide +kernel
theorem dX7_addCoat_35 : decode cX7_addCoat 35 = .ok (.iconst 0, 1) := by decide +kernel
theorem dX7_addCoat_36 : decode cX7_addCoat 36 = .ok (.iaload, 1) := by decide +kernel
theorem dX7_addCoat_37 : decode cX7_addCoat 37 = .ok (.iastore, 1) := by decide +kernel
theorem dX7_addCoat_38 : decode cX7_addCoat 38 = .ok (.aload_n 0, 1) := by decide +kernel
theorem dX7_addCoat_39 : decode cX7_addCoat 39 = .ok (.iconst 3, 1) := by decide +kernel
theorem dX7_addCoat_40 : decode cX7_addCoat 40 = .ok (.dup2, 1) := by decide +kernel
theorem dX7_addCoat_41 : decode cX7_addCoat 41 = .ok (.iaload, 1) := by decide +kernel
theorem dX7_addCoat_42 : decode cX7_addCoat 42 = .ok (.iconst 1, 1) := by decide +kernel
theorem dX7_addCoat_43 : decode cX7_addCoat 43 = .ok (.iadd, 1) := by decide +kernel
theorem dX7_addCoat_44 : decode cX7_addCoat 44 = .ok (.iastore, 1) := by decide +kernel
theorem dX7_addCoat_45 : decode cX7_addCoat 45 = .ok (.iload 4, 2) := by decide +kernel
theorem dX7_addCoat_47 : decode cX7_addCoat 47 = .ok (.ireturn, 1) := by decide +kernel
theorem dX7_capOf_0 : decode cX7_capOf 0 = .ok (.aload_n 0, 1) := by decide +kernel
theorem dX7_capOf_1 : decode cX7_capOf 1 = .ok (.bipush 14, 2) := by decide +kernel
theorem dX7_capOf_3 : decode cX7_capOf 3 = .ok (.iload_n 1, 1) := by decide +kernel
theorem dX7_capOf_4 : decode cX7_capOf 4 = .ok (.iadd, 1) := by decide +kernel
theorem dX7_capOf_5 : decode cX7_capOf 5 = .ok (.iaload, 1) := by decide +kernel
theorem dX7_capOf_6 : decode cX7_capOf 6 = .ok (.istore_n 2, 1) := by decide +kernel
theorem dX7_capOf_7 : decode cX7_capOf 7 = .ok (.iload_n 2, 1) := by decide +kernel
theorem dX7_capOf_8 : decode cX7_capOf 8 = .ok (.aload_n 0, 1) := by decide +kernel
theorem dX7_capOf_9 : decode cX7_capOf 9 = .ok (.bipush 24, 2) := by decide +kernel
theorem dX7_capOf_11 : decode cX7_capOf 11 = .ok (.iload_n 1, 1) := by decide +kernel
theorem dX7_capOf_12 : decode cX7_capOf 12 = .ok (.iadd, 1) := by decide +kernel
theorem dX7_capOf_13 : decode cX7_capOf 13 = .ok (.iaload, 1) := by decide +kernel
theorem dX7_capOf_14 : decode cX7_capOf 14 = .ok (.ifCond .ne 7, 3) := by decide +kernel
theorem dX7_capOf_17 : decode cX7_capOf 17 = .ok (.iconst 2, 1) := by decide +kernel
theorem dX7_capOf_18 : decode cX7_capOf 18 = .ok (.goto 4, 3) := by decide +kernel
theorem dX7_capOf_21 : decode cX7_capOf 21 = .ok (.iconst 0, 1) := by decide +kernel
theorem dX7_capOf_22 : decode cX7_capOf 22 = .ok (.iadd, 1) := by decide +kernel
theorem dX7_capOf_23 : decode cX7_capOf 23 = .ok (.istore_n 3, 1) := by decide +kernel
theorem dX7_capOf_24 : decode cX7_capOf 24 = .ok (.aload_n 0, 1) := by decide +kernel
theorem dX7_capOf_25 : decode cX7_capOf 25 = .ok (.iconst 4, 1) := by decide +kernel
theorem dX7_capOf_26 : decode cX7_capOf 26 = .ok (.iload_n 1, 1) := by decide +kernel
theorem dX7_capOf_27 : decode cX7_capOf 27 = .ok (.iadd, 1) := by decide +kernel
theorem dX7_capOf_28 : decode cX7_capOf 28 = .ok (.iaload, 1) := by decide +kernel
theorem dX7_capOf_29 : decode cX7_capOf 29 = .ok (.tableswitch 49 0 3 #[31, 33, 37, 39], 31) := by decide +kernel
theorem dX7_capOf_60 : decode cX7_capOf 60 = .ok (.iload_n 2, 1) := by decide +kernel
theorem dX7_capOf_61 : decode cX7_capOf 61 = .ok (.ireturn, 1) := by decide +kernel
theorem dX7_capOf_62 : decode cX7_capOf 62 = .ok (.iload_n 2, 1) := by decide +kernel
theorem dX7_capOf_63 : decode cX7_capOf 63 = .ok (.iconst 2, 1) := by decide +kernel
theorem dX7_capOf_64 : decode cX7_capOf 64 = .ok (.idiv, 1) := by decide +kernel
theorem dX7_capOf_65 : decode cX7_capOf 65 = .ok (.ireturn, 1) := by decide +kernel
theorem dX7_capOf_66 : decode cX7_capOf 66 = .ok (.iload_n 3, 1) := by decide +kernel
theorem dX7_capOf_67 : decode cX7_capOf 67 = .ok (.ireturn, 1) := by decide +kernel
theorem dX7_capOf_68 : decode cX7_capOf 68 = .ok (.iload_n 2, 1) := by decide +kernel
theorem dX7_capOf_69 : decode cX7_capOf 69 = .ok (.iconst 2, 1) := by decide +kernel
theorem dX7_capOf_70 : decode cX7_capOf 70 = .ok (.idiv, 1) := by decide +kernel
theorem dX7_capOf_71 : decode cX7_capOf 71 = .ok (.aload_n 0, 1) := by decide +kernel
theorem dX7_capOf_72 : decode cX7_capOf 72 = .ok (.iconst 0, 1) := by decide +kernel
theorem dX7_capOf_73 : decode cX7_capOf 73 = .ok (.iaload, 1) := by decide +kernel
theorem dX7_capOf_74 : decode cX7_capOf 74 = .ok (.iconst 2, 1) := by decide +kernel
theorem dX7_capOf_75 : decode cX7_capOf 75 = .ok (.irem, 1) := by decide +kernel
theorem dX7_capOf_76 : decode cX7_capOf 76 = .ok (.iadd, 1) := by decide +kernel
theorem dX7_capOf_77 : decode cX7_capOf 77 = .ok (.ireturn, 1) := by decide +kernel
theorem dX7_capOf_78 : decode cX7_capOf 78 = .ok (.iconst 2, 1) := by decide +kernel
theorem dX7_capOf_79 : decode cX7_capOf 79 = .ok (.iload_n 3, 1) := by decide +kernel
theorem dX7_capOf_80 : decode cX7_capOf 80 = .ok (.imul, 1) := by decide +kernel
theorem dX7_capOf_81 : decode cX7_capOf 81 = .ok (.ireturn, 1) := by decide +kernel
set_option maxRecDepth 20000 in
theorem ggX7_above_X7_capOf : GoodIn wsX7_above wsX7_capOf := goodIn_r _ [5] (by decide +kernel) (by decide +kernel)
set_option maxRecDepth 20000 in
theorem gX7_above_X7_capOf : GoodIn wsX7_above (va_wsS RX7 52 yX7_capOf wsX7_capOf) := goodIn_app (goodIn_of _ (by decide +kernel)) ggX7_above_X7_capOf
theorem dX7_above_0 : decode cX7_above 0 = .ok (.iconst 0, 1) := by decide +kernel
theorem dX7_above_1 : decode cX7_above 1 = .ok (.istore_n 2, 1) := by decide +kernel
theorem dX7_above_2 : decode cX7_above 2 = .ok (.iload_n 1, 1) := by decide +kernel
theorem dX7_above_3 : decode cX7_above 3 = .ok (.iconst 1, 1) := by decide +kernel
theorem dX7_above_4 : decode cX7_above 4 = .ok (.iadd, 1) := by decide +kernel
theorem dX7_above_5 : decode cX7_above 5 = .ok (.istore_n 3, 1) := by decide +kernel
theorem dX7_above_6 : decode cX7_above 6 = .ok (.iload_n 3, 1) := by decide +kernel
theorem dX7_above_7 : decode cX7_above 7 = .ok (.aload_n 0, 1) := by decide +kernel
theorem dX7_above_8 : decode cX7_above 8 = .ok (.getfield 23, 3) := by decide +kernel
theorem dX7_above_11 : decode cX7_above 11 = .ok (.iconst 3, 1) := by decide +kernel
theorem dX7_above_12 : decode cX7_above 12 = .ok (.iaload, 1) := by decide +kernel
theorem dX7_above_13 : decode cX7_above 13 = .ok (.if_icmp .ge 20, 3) := by decide +kernel
theorem dX7_above_16 : decode cX7_above 16 = .ok (.iload_n 2, 1) := by decide +kernel
theorem dX7_above_17 : decode cX7_above 17 = .ok (.aload_n 0, 1) := by decide +kernel
theorem dX7_above_18 : decode cX7_above 18 = .ok (.getfield 23, 3) := by decide +kernel
theorem dX7_above_21 : decode cX7_above 21 = .ok (.iload_n 3, 1) := by decide +kernel
theorem dX7_above_22 : decode cX7_above 22 = .ok (.invokestatic 52, 3) := by decide +kernel
theorem dX7_above_25 : decode cX7_above 25 = .ok (.iadd, 1) := by decide +kernel
theorem dX7_above_26 : decode cX7_above 26 = .ok (.istore_n 2, 1) := by decide +kernel
theorem dX7_above_27 : decode cX7_above 27 = .ok (.iinc 3 1, 3) := by decide +kernel
theorem dX7_above_30 : decode cX7_above 30 = .ok (.goto (-24), 3) := by decide +kernel
theorem dX7_above_33 : decode cX7_above 33 = .ok (.iload_n 2, 1) := by decide +kernel
theorem dX7_above_34 : decode cX7_above 34 = .ok (.ireturn, 1) := by decide +kernel
set_option maxRecDepth 20000 in
theorem ggX7_of_X7_isCoat : GoodIn wsX7_of wsX7_isCoat := goodIn_r _ [6, 1, 7, 8, 5, 9, 17, 18, 19, 20, 21, 22, 23, 24, 25, 26, 27, 28, 29, 30, 31] (by decide +kernel) (by decide +kernel)
set_option maxRecDepth 20000 in
theorem gX7_of_X7_isCoat : GoodIn wsX7_of (wsV RX7 56 RX7 yX7_isCoat wsX7_isCoat) := goodIn_app (goodIn_of _ (by decide +kernel)) ggX7_of_X7_isCoat
set_option maxRecDepth 20000 in
theorem ggX7_of_X7_capOf : GoodIn wsX7_of wsX7_capOf := goodIn_r _ [12] (by decide +kernel) (by decide +kernel)
set_option maxRecDepth 20000 in
theorem gX7_of_X7_capOf : GoodIn wsX7_of (va_wsS RX7 52 yX7_capOf wsX7_capOf) := goodIn_app (goodIn_of _ (by decide +kernel)) ggX7_of_X7_capOf
set_option maxRecDepth 20000 in
theorem ggX7_of_X7_above : GoodIn wsX7_of wsX7_above := goodIn_r _ [16, 1, 10, 11, 5, 12, 17, 18, 19, 20, 21, 22, 23, 24, 25, 26, 27, 28, 29, 30, 31] (by decide +kernel) (by decide +kernel)
set_option maxRecDepth 20000 in
theorem gX7_of_X7_above : GoodIn wsX7_of (wsV RX7 60 RX7 yX7_above wsX7_above) := goodIn_app (goodIn_of _ (by decide +kernel)) ggX7_of_X7_above
theorem dX7_of_0 : decode cX7_of 0 = .ok (.aload_n 0, 1) := by decide +kernel
theorem dX7_of_1 : decode cX7_of 1 = .ok (.iload_n 1, 1) := by decide +kernel
theorem dX7_of_2 : decode cX7_of 2 = .ok (.invokevirtual 56, 3) := by decide +kernel
theorem dX7_of_5 : decode cX7_of 5 = .ok (.ifCond .ne 5, 3) := by decide +kernel
theorem dX7_of_8 : decode cX7_of 8 = .ok (.iconst (-1), 1) := by decide +kernel
theorem dX7_of_9 : decode cX7_of 9 = .ok (.ireturn, 1) := by decide +kernel
theorem dX7_of_10 : decode cX7_of 10 = .ok (.iload_n 2, 1) := by decide +kernel
theorem dX7_of_11 : decode cX7_of 11 = .ok (.tableswitch 91 0 5 #[37, 46, 56, 66, 76, 85], 37) := by decide +kernel
theorem dX7_of_48 : decode cX7_of 48 = .ok (.aload_n 0, 1) := by decide +kernel
theorem dX7_of_49 : decode cX7_of 49 = .ok (.getfield 23, 3) := by decide +kernel
theorem dX7_of_52 : decode cX7_of 52 = .ok (.iconst 4, 1) := by decide +kernel
theorem dX7_of_53 : decode cX7_of 53 = .ok (.iload_n 1, 1) := by decide +kernel
theorem dX7_of_54 : decode cX7_of 54 = .ok (.iadd, 1) := by decide +kernel
theorem dX7_of_55 : decode cX7_of 55 = .ok (.iaload, 1) := by decide +kernel
theorem dX7_of_56 : decode cX7_of 56 = .ok (.ireturn, 1) := by decide +kernel
theorem dX7_of_57 : decode cX7_of 57 = .ok (.aload_n 0, 1) := by decide +kernel
theorem dX7_of_58 : decode cX7_of 58 = .ok (.getfield 23, 3) := by decide +kernel
theorem dX7_of_61 : decode cX7_of 61 = .ok (.bipush 14, 2) := by decide +kernel
theorem dX7_of_63 : decode cX7_of 63 = .ok (.iload_n 1, 1) := by decide +kernel
theorem dX7_of_64 : decode cX7_of 64 = .ok (.iadd, 1) := by decide +kernel
theorem dX7_of_65 : decode cX7_of 65 = .ok (.iaload, 1) := by decide +kernel
theorem dX7_of_66 : decode cX7_of 66 = .ok (.ireturn, 1) := by decide +kernel
theorem dX7_of_67 : decode cX7_of 67 = .ok (.aload_n 0, 1) := by decide +kernel
theorem dX7_of_68 : decode cX7_of 68 = .ok (.getfield 23, 3) := by decide +kernel
theorem dX7_of_71 : decode cX7_of 71 = .ok (.bipush 24, 2) := by decide +kernel
theorem dX7_of_73 : decode cX7_of 73 = .ok (.iload_n 1, 1) := by decide +kernel
theorem dX7_of_74 : decode cX7_of 74 = .ok (.iadd, 1) := by decide +kernel
theorem dX7_of_75 : decode cX7_of 75 = .ok (.iaload, 1) := by decide +kernel
theorem dX7_of_76 : decode cX7_of 76 = .ok (.ireturn, 1) := by decide +kernel
theorem dX7_of_77 : decode cX7_of 77 = .ok (.aload_n 0, 1) := by decide +kernel
theorem dX7_of_78 : decode cX7_of 78 = .ok (.getfield 23, 3) := by decide +kernel
theorem dX7_of_81 : decode cX7_of 81 = .ok (.bipush 34, 2) := by decide +kernel
theorem dX7_of_83 : decode cX7_of 83 = .ok (.iload_n 1, 1) := by decide +kernel
theorem dX7_of_84 : decode cX7_of 84 = .ok (.iadd, 1) := by decide +kernel
theorem dX7_of_85 : decode cX7_of 85 = .ok (.iaload, 1) := by decide +kernel
theorem dX7_of_86 : decode cX7_of 86 = .ok (.ireturn, 1) := by decide +kernel
theorem dX7_of_87 : decode cX7_of 87 = .ok (.aload_n 0, 1) := by decide +kernel
theorem dX7_of_88 : decode cX7_of 88 = .ok (.getfield 23, 3) := by decide +kernel
theorem dX7_of_91 : decode cX7_of 91 = .ok (.iload_n 1, 1) := by decide +kernel
theorem dX7_of_92 : decode cX7_of 92 = .ok (.invokestatic 52, 3) := by decide +kernel
theorem dX7_of_95 : decode cX7_of 95 = .ok (.ireturn, 1) := by decide +kernel
theorem dX7_of_96 : decode cX7_of 96 = .ok (.aload_n 0, 1) := by decide +kernel
theorem dX7_of_97 : decode cX7_of 97 = .ok (.iload_n 1, 1) := by decide +kernel
theorem dX7_of_98 : decode cX7_of 98 = .ok (.invokevirtual 60, 3) := by decide +kernel
theorem dX7_of_101 : decode cX7_of 101 = .ok (.ireturn, 1) := by decide +kernel
theorem dX7_of_102 : decode cX7_of 102 = .ok (.iconst (-1), 1) := by decide +kernel
theorem dX7_of_103 : decode cX7_of 103 = .ok (.ireturn, 1) := by decide +kernel
theorem dX7_rainIn_0 : decode cX7_rainIn 0 = .ok (.aload_n 0, 1) := by decide +kernel
theorem dX7_rainIn_1 : decode cX7_rainIn 1 = .ok (.bipush 45, 2) := by decide +kernel
theorem dX7_rainIn_3 : decode cX7_rainIn 3 = .ok (.iaload, 1) := by decide +kernel
theorem dX7_rainIn_4 : decode cX7_rainIn 4 = .ok (.ifCond .ne 7, 3) := by decide +kernel
theorem dX7_rainIn_7 : decode cX7_rainIn 7 = .ok (.iconst 0, 1) := by decide +kernel
theorem dX7_rainIn_8 : decode cX7_rainIn 8 = .ok (.goto 14, 3) := by decide +kernel
theorem dX7_rainIn_11 : decode cX7_rainIn 11 = .ok (.aload_n 0, 1) := by decide +kernel
theorem dX7_rainIn_12 : decode cX7_rainIn 12 = .ok (.bipush 46, 2) := by decide +kernel
theorem dX7_rainIn_14 : decode cX7_rainIn 14 = .ok (.iload_n 1, 1) := by decide +kernel
theorem dX7_rainIn_15 : decode cX7_rainIn 15 = .ok (.aload_n 0, 1) := by decide +kernel
theorem dX7_rainIn_16 : decode cX7_rainIn 16 = .ok (.bipush 45, 2) := by decide +kernel
theorem dX7_rainIn_18 : decode cX7_rainIn 18 = .ok (.iaload, 1) := by decide +kernel
theorem dX7_rainIn_19 : decode cX7_rainIn 19 = .ok (.irem, 1) := by decide +kernel
theorem dX7_rainIn_20 : decode cX7_rainIn 20 = .ok (.iadd, 1) := by decide +kernel
theorem dX7_rainIn_21 : decode cX7_rainIn 21 = .ok (.iaload, 1) := by decide +kernel
theorem dX7_rainIn_22 : decode cX7_rainIn 22 = .ok (.ireturn, 1) := by decide +kernel
set_option maxRecDepth 20000 in
theorem ggX7_rains_X7_in : GoodIn wsX7_rains wsX7_in := goodIn_r _ [5] (by decide +kernel) (by decide +kernel)
set_option maxRecDepth 20000 in
theorem gX7_rains_X7_in : GoodIn wsX7_rains (va_wsS RX7 44 yX7_in wsX7_in) := goodIn_app (goodIn_of _ (by decide +kernel)) ggX7_rains_X7_in
set_option maxRecDepth 20000 in
theorem ggX7_rains_X7_rainIn : GoodIn wsX7_rains wsX7_rainIn := goodIn_r _ [8] (by decide +kernel) (by decide +kernel)
set_option maxRecDepth 20000 in
theorem gX7_rains_X7_rainIn : GoodIn wsX7_rains (va_wsS RX7 64 yX7_rainIn wsX7_rainIn) := goodIn_app (goodIn_of _ (by decide +kernel)) ggX7_rains_X7_rainIn
theorem dX7_rains_0 : decode cX7_rains 0 = .ok (.iload_n 1, 1) := by decide +kernel
theorem dX7_rains_1 : decode cX7_rains 1 = .ok (.iconst 0, 1) := by decide +kernel
theorem dX7_rains_2 : decode cX7_rains 2 = .ok (.bipush 40, 2) := by decide +kernel
theorem dX7_rains_4 : decode cX7_rains 4 = .ok (.invokestatic 44, 3) := by decide +kernel
theorem dX7_rains_7 : decode cX7_rains 7 = .ok (.ifCond .eq 21, 3) := by decide +kernel
theorem dX7_rains_10 : decode cX7_rains 10 = .ok (.aload_n 0, 1) := by decide +kernel
theorem dX7_rains_11 : decode cX7_rains 11 = .ok (.getfield 23, 3) := by decide +kernel
theorem dX7_rains_14 : decode cX7_rains 14 = .ok (.aload_n 0, 1) := by decide +kernel
theorem dX7_rains_15 : decode cX7_rains 15 = .ok (.getfield 23, 3) := by decide +kernel
theorem dX7_rains_18 : decode cX7_rains 18 = .ok (.iconst 0, 1) := by decide +kernel
theorem dX7_rains_19 : decode cX7_rains 19 = .ok (.iaload, 1) := by decide +kernel
theorem dX7_rains_20 : decode cX7_rains 20 = .ok (.iload_n 1, 1) := by decide +kernel
theorem dX7_rains_21 : decode cX7_rains 21 = .ok (.iadd, 1) := by decide +kernel
theorem dX7_rains_22 : decode cX7_rains 22 = .ok (.invokestatic 64, 3) := by decide +kernel
theorem dX7_rains_25 : decode cX7_rains 25 = .ok (.goto 4, 3) := by decide +kernel
theorem dX7_rains_28 : decode cX7_rains 28 = .ok (.iconst (-1), 1) := by decide +kernel
theorem dX7_rains_29 : decode cX7_rains 29 = .ok (.ireturn, 1) := by decide +kernel
set_option maxRecDepth 20000 in
theorem ggX7_type_X7_in : GoodIn wsX7_type wsX7_in := goodIn_r _ [6] (by decide +kernel) (by decide +kernel)
set_option maxRecDepth 20000 in
theorem gX7_type_X7_in : GoodIn wsX7_type (va_wsS RX7 44 yX7_in wsX7_in) := goodIn_app (goodIn_of _ (by decide +kernel)) ggX7_type_X7_in
theorem dX7_type_0 : decode cX7_type 0 = .ok (.iload_n 1, 1) := by decide +kernel
theorem dX7_type_1 : decode cX7_type 1 = .ok (.bipush 32, 2) := by decide +kernel
theorem dX7_type_3 : decode cX7_type 3 = .ok (.bipush 126, 2) := by decide +kernel
theorem dX7_type_5 : decode cX7_type 5 = .ok (.invokestatic 44, 3) := by decide +kernel
theorem dX7_type_8 : decode cX7_type 8 = .ok (.ifCond .ne 5, 3) := by decide +kernel
theorem dX7_type_11 : decode cX7_type 11 = .ok (.iconst (-1), 1) := by decide +kernel
theorem dX7_type_12 : decode cX7_type 12 = .ok (.ireturn, 1) := by decide +kernel
theorem dX7_type_13 : decode cX7_type 13 = .ok (.aload_n 0, 1) := by decide +kernel
theorem dX7_type_14 : decode cX7_type 14 = .ok (.getfield 67, 3) := by decide +kernel
theorem dX7_type_17 : decode cX7_type 17 = .ok (.bipush 90, 2) := by decide +kernel
theorem dX7_type_19 : decode cX7_type 19 = .ok (.if_icmp .ne 6, 3) := by decide +kernel
theorem dX7_type_22 : decode cX7_type 22 = .ok (.bipush (-3), 2) := by decide +kernel
theorem dX7_type_24 : decode cX7_type 24 = .ok (.ireturn, 1) := by decide +kernel
theorem dX7_type_25 : decode cX7_type 25 = .ok (.aload_n 0, 1) := by decide +kernel
theorem dX7_type_26 : decode cX7_type 26 = .ok (.getfield 20, 3) := by decide +kernel
theorem dX7_type_29 : decode cX7_type 29 = .ok (.aload_n 0, 1) := by decide +kernel
theorem dX7_type_30 : decode cX7_type 30 = .ok (.getfield 67, 3) := by decide +kernel
theorem dX7_type_33 : decode cX7_type 33 = .ok (.iload_n 1, 1) := by decide +kernel
theorem dX7_type_34 : decode cX7_type 34 = .ok (.iastore, 1) := by decide +kernel
theorem dX7_type_35 : decode cX7_type 35 = .ok (.aload_n 0, 1) := by decide +kernel
theorem dX7_type_36 : decode cX7_type 36 = .ok (.dup, 1) := by decide +kernel
theorem dX7_type_37 : decode cX7_type 37 = .ok (.getfield 67, 3) := by decide +kernel
theorem dX7_type_40 : decode cX7_type 40 = .ok (.iconst 1, 1) := by decide +kernel
theorem dX7_type_41 : decode cX7_type 41 = .ok (.iadd, 1) := by decide +kernel
theorem dX7_type_42 : decode cX7_type 42 = .ok (.putfield 67, 3) := by decide +kernel
theorem dX7_type_45 : decode cX7_type 45 = .ok (.aload_n 0, 1) := by decide +kernel
theorem dX7_type_46 : decode cX7_type 46 = .ok (.getfield 67, 3) := by decide +kernel
theorem dX7_type_49 : decode cX7_type 49 = .ok (.ireturn, 1) := by decide +kernel
theorem dX7_peek_0 : decode cX7_peek 0 = .ok (.aload_n 0, 1) := by decide +kernel
theorem dX7_peek_1 : decode cX7_peek 1 = .ok (.getfield 71, 3) := by decide +kernel
theorem dX7_peek_4 : decode cX7_peek 4 = .ok (.aload_n 0, 1) := by decide +kernel
theorem dX7_peek_5 : decode cX7_peek 5 = .ok (.getfield 67, 3) := by decide +kernel
theorem dX7_peek_8 : decode cX7_peek 8 = .ok (.if_icmp .ge 30, 3) := by decide +kernel
theorem dX7_peek_11 : decode cX7_peek 11 = .ok (.aload_n 0, 1) := by decide +kernel
theorem dX7_peek_12 : decode cX7_peek 12 = .ok (.getfield 20, 3) := by decide +kernel
theorem dX7_peek_15 : decode cX7_peek 15 = .ok (.aload_n 0, 1) := by decide +kernel
theorem dX7_peek_16 : decode cX7_peek 16 = .ok (.getfield 71, 3) := by decide +kernel
theorem dX7_peek_19 : decode cX7_peek 19 = .ok (.iaload, 1) := by decide +kernel
theorem dX7_peek_20 : decode cX7_peek 20 = .ok (.bipush 32, 2) := by decide +kernel
theorem dX7_peek_22 : decode cX7_peek 22 = .ok (.if_icmp .ne 16, 3) := by decide +kernel
theorem dX7_peek_25 : decode cX7_peek 25 = .ok (.aload_n 0, 1) := by decide +kernel
theorem dX7_peek_26 : decode cX7_peek 26 = .ok (.dup, 1) := by decide +kernel
theorem dX7_peek_27 : decode cX7_peek 27 = .ok (.getfield 71, 3) := by decide +kernel
theorem dX7_peek_30 : decode cX7_peek 30 = .ok (.iconst 1, 1) := by decide +kernel
theorem dX7_peek_31 : decode cX7_peek 31 = .ok (.iadd, 1) := by decide +kernel
theorem dX7_peek_32 : decode cX7_peek 32 = .ok (.putfield 71, 3) := by decide +kernel
theorem dX7_peek_35 : decode cX7_peek 35 = .ok (.goto (-35), 3) := by decide +kernel
theorem dX7_peek_38 : decode cX7_peek 38 = .ok (.aload_n 0, 1) := by decide +kernel
theorem dX7_peek_39 : decode cX7_peek 39 = .ok (.getfield 71, 3) := by decide +kernel
theorem dX7_peek_42 : decode cX7_peek 42 = .ok (.aload_n 0, 1) := by decide +kernel
theorem dX7_peek_43 : decode cX7_peek 43 = .ok (.getfield 67, 3) := by decide +kernel
theorem dX7_peek_46 : decode cX7_peek 46 = .ok (.if_icmp .ge 15, 3) := by decide +kernel
theorem dX7_peek_49 : decode cX7_peek 49 = .ok (.aload_n 0, 1) := by decide +kernel
theorem dX7_peek_50 : decode cX7_peek 50 = .ok (.getfield 20, 3) := by decide +kernel
theorem dX7_peek_53 : decode cX7_peek 53 = .ok (.aload_n 0, 1) := by decide +kernel
theorem dX7_peek_54 : decode cX7_peek 54 = .ok (.getfield 71, 3) := by decide +kernel
theorem dX7_peek_57 : decode cX7_peek 57 = .ok (.iaload, 1) := by decide +kernel
theorem dX7_peek_58 : decode cX7_peek 58 = .ok (.goto 4, 3) := by decide +kernel
theorem dX7_peek_61 : decode cX7_peek 61 = .ok (.iconst 0, 1) := by decide +kernel
theorem dX7_peek_62 : decode cX7_peek 62 = .ok (.ireturn, 1) := by decide +kernel
set_option maxRecDepth 20000 in
theorem ggX7_isSign_X7_peek : GoodIn wsX7_isSign wsX7_peek := goodIn_r _ [6, 1, 7, 8, 9, 10, 11, 12, 13, 14, 15, 16, 17, 18, 19, 20, 21, 22, 23] (by decide +kernel) (by decide +kernel)
set_option maxRecDepth 20000 in
theorem gX7_isSign_X7_peek : GoodIn wsX7_isSign (wsV RX7 74 RX7 yX7_peek wsX7_peek) := goodIn_app (goodIn_of _ (by decide +kernel)) ggX7_isSign_X7_peek
theorem dX7_isSign_0 : decode cX7_isSign 0 = .ok (.aload_n 0, 1) := by decide +kernel
theorem dX7_isSign_1 : decode cX7_isSign 1 = .ok (.invokevirtual 74, 3) := by decide +kernel
theorem dX7_isSign_4 : decode cX7_isSign 4 = .ok (.iload_n 1, 1) := by decide +kernel
theorem dX7_isSign_5 : decode cX7_isSign 5 = .ok (.if_icmp .eq 5, 3) := by decide +kernel
theorem dX7_isSign_8 : decode cX7_isSign 8 = .ok (.iconst 0, 1) := by decide +kernel
theorem dX7_isSign_9 : decode cX7_isSign 9 = .ok (.ireturn, 1) := by decide +kernel
theorem dX7_isSign_10 : decode cX7_isSign 10 = .ok (.aload_n 0, 1) := by decide +kernel
theorem dX7_isSign_11 : decode cX7_isSign 11 = .ok (.dup, 1) := by decide +kernel
theorem dX7_isSign_12 : decode cX7_isSign 12 = .ok (.getfield 71, 3) := by decide +kernel
theorem dX7_isSign_15 : decode cX7_isSign 15 = .ok (.iconst 1, 1) := by decide +kernel
theorem dX7_isSign_16 : decode cX7_isSign 16 = .ok (.iadd, 1) := by decide +kernel
theorem dX7_isSign_17 : decode cX7_isSign 17 = .ok (.putfield 71, 3) := by decide +kernel
theorem dX7_isSign_20 : decode cX7_isSign 20 = .ok (.iconst 1, 1) := by decide +kernel
theorem dX7_isSign_21 : decode cX7_isSign 21 = .ok (.ireturn, 1) := by decide +kernel
set_option maxRecDepth 20000 in
theorem ggX7_isDigit_X7_peek : GoodIn wsX7_isDigit wsX7_peek := goodIn_r _ [7, 2, 8, 9, 13, 14, 15, 16, 17, 18, 19, 20, 21, 22, 23, 24, 25, 26, 27] (by decide +kernel) (by decide +kernel)
set_option maxRecDepth 20000 in
theorem gX7_isDigit_X7_peek : GoodIn wsX7_isDigit (wsV RX7 74 RX7 yX7_peek wsX7_peek) := goodIn_app (goodIn_of _ (by decide +kernel)) ggX7_isDigit_X7_peek
set_option maxRecDepth 20000 in
theorem ggX7_isDigit_X7_in : GoodIn wsX7_isDigit wsX7_in := goodIn_r _ [12] (by decide +kernel) (by decide +kernel)
set_option maxRecDepth 20000 in
theorem gX7_isDigit_X7_in : GoodIn wsX7_isDigit (va_wsS RX7 44 yX7_in wsX7_in) := goodIn_app (goodIn_of _ (by decide +kernel)) ggX7_isDigit_X7_in
theorem dX7_isDigit_0 : decode cX7_isDigit 0 = .ok (.aload_n 0, 1) := by decide +kernel
theorem dX7_isDigit_1 : decode cX7_isDigit 1 = .ok (.aload_n 0, 1) := by decide +kernel
theorem dX7_isDigit_2 : decode cX7_isDigit 2 = .ok (.invokevirtual 74, 3) := by decide +kernel
theorem dX7_isDigit_5 : decode cX7_isDigit 5 = .ok (.bipush 48, 2) := by decide +kernel
theorem dX7_isDigit_7 : decode cX7_isDigit 7 = .ok (.isub, 1) := by decide +kernel
theorem dX7_isDigit_8 : decode cX7_isDigit 8 = .ok (.putfield 78, 3) := by decide +kernel
theorem dX7_isDigit_11 : decode cX7_isDigit 11 = .ok (.aload_n 0, 1) := by decide +kernel
theorem dX7_isDigit_12 : decode cX7_isDigit 12 = .ok (.getfield 78, 3) := by decide +kernel
theorem dX7_isDigit_15 : decode cX7_isDigit 15 = .ok (.iload_n 1, 1) := by decide +kernel
theorem dX7_isDigit_16 : decode cX7_isDigit 16 = .ok (.iload_n 2, 1) := by decide +kernel
theorem dX7_isDigit_17 : decode cX7_isDigit 17 = .ok (.invokestatic 44, 3) := by decide +kernel
theorem dX7_isDigit_20 : decode cX7_isDigit 20 = .ok (.ifCond .ne 5, 3) := by decide +kernel
theorem dX7_isDigit_23 : decode cX7_isDigit 23 = .ok (.iconst 0, 1) := by decide +kernel
theorem dX7_isDigit_24 : decode cX7_isDigit 24 = .ok (.ireturn, 1) := by decide +kernel
theorem dX7_isDigit_25 : decode cX7_isDigit 25 = .ok (.aload_n 0, 1) := by decide +kernel
theorem dX7_isDigit_26 : decode cX7_isDigit 26 = .ok (.dup, 1) := by decide +kernel
theorem dX7_isDigit_27 : decode cX7_isDigit 27 = .ok (.getfield 71, 3) := by decide +kernel
theorem dX7_isDigit_30 : decode cX7_isDigit 30 = .ok (.iconst 1, 1) := by decide +kernel
theorem dX7_isDigit_31 : decode cX7_isDigit 31 = .ok (.iadd, 1) := by decide +kernel
theorem dX7_isDigit_32 : decode cX7_isDigit 32 = .ok (.putfield 71, 3) := by decide +kernel
theorem dX7_isDigit_35 : decode cX7_isDigit 35 = .ok (.iconst 1, 1) := by decide +kernel
theorem dX7_isDigit_36 : decode cX7_isDigit 36 = .ok (.ireturn, 1) := by decide +kernel
set_option maxRecDepth 20000 in
theorem ggX7_isNumber_X7_isDigit : GoodIn wsX7_isNumber wsX7_isDigit := goodIn_r _ [9, 2, 1, 10, 11, 12, 8, 13, 3, 4, 14, 15, 16, 17, 18, 19, 20, 21, 22, 23, 24, 25, 26, 27, 28, 29, 30, 31] (by decide +kernel) (by decide +kernel)
set_option maxRecDepth 20000 in
theorem gX7_isNumber_X7_isDigit : GoodIn wsX7_isNumber (wsV RX7 81 RX7 yX7_isDigit wsX7_isDigit) := goodIn_app (goodIn_of _ (by decide +kernel)) ggX7_isNumber_X7_isDigit
set_option maxRecDepth 20000 in
theorem ggX7_isNumber_X7_in : GoodIn wsX7_isNumber wsX7_in := goodIn_r _ [16] (by decide +kernel) (by decide +kernel)
set_option maxRecDepth 20000 in
theorem gX7_isNumber_X7_in : GoodIn wsX7_isNumber (va_wsS RX7 44 yX7_in wsX7_in) := goodIn_app (goodIn_of _ (by decide +kernel)) ggX7_isNumber_X7_in
theorem dX7_isNumber_0 : decode cX7_isNumber 0 = .ok (.aload_n 0, 1) := by decide +kernel
theorem dX7_isNumber_1 : decode cX7_isNumber 1 = .ok (.iconst 0, 1) := by decide +kernel
theorem dX7_isNumber_2 : decode cX7_isNumber 2 = .ok (.bipush 9, 2) := by decide +kernel
theorem dX7_isNumber_4 : decode cX7_isNumber 4 = .ok (.invokevirtual 81, 3) := by decide +kernel
theorem dX7_isNumber_7 : decode cX7_isNumber 7 = .ok (.ifCond .ne 5, 3) := by decide +kernel
theorem dX7_isNumber_10 : decode cX7_isNumber 10 = .ok (.iconst 0, 1) := by decide +kernel
theorem dX7_isNumber_11 : decode cX7_isNumber 11 = .ok (.ireturn, 1) := by decide +kernel
theorem dX7_isNumber_12 : decode cX7_isNumber 12 = .ok (.aload_n 0, 1) := by decide +kernel
theorem dX7_isNumber_13 : decode cX7_isNumber 13 = .ok (.getfield 71, 3) := by decide +kernel
theorem dX7_isNumber_16 : decode cX7_isNumber 16 = .ok (.iconst 1, 1) := by decide +kernel
theorem dX7_isNumber_17 : decode cX7_isNumber 17 = .ok (.isub, 1) := by decide +kernel
theorem dX7_isNumber_18 : decode cX7_isNumber 18 = .ok (.istore_n 3, 1) := by decide +kernel
theorem dX7_isNumber_19 : decode cX7_isNumber 19 = .ok (.aload_n 0, 1) := by decide +kernel
theorem dX7_isNumber_20 : decode cX7_isNumber 20 = .ok (.getfield 78, 3) := by decide +kernel
theorem dX7_isNumber_23 : decode cX7_isNumber 23 = .ok (.istore 4, 2) := by decide +kernel
theorem dX7_isNumber_25 : decode cX7_isNumber 25 = .ok (.aload_n 0, 1) := by decide +kernel
theorem dX7_isNumber_26 : decode cX7_isNumber 26 = .ok (.getfield 71, 3) := by decide +kernel
theorem dX7_isNumber_29 : decode cX7_isNumber 29 = .ok (.aload_n 0, 1) := by decide +kernel
theorem dX7_isNumber_30 : decode cX7_isNumber 30 = .ok (.getfield 67, 3) := by decide +kernel
theorem dX7_isNumber_33 : decode cX7_isNumber 33 = .ok (.if_icmp .ge 52, 3) := by decide +kernel
theorem dX7_isNumber_36 : decode cX7_isNumber 36 = .ok (.aload_n 0, 1) := by decide +kernel
theorem dX7_isNumber_37 : decode cX7_isNumber 37 = .ok (.getfield 20, 3) := by decide +kernel
theorem dX7_isNumber_40 : decode cX7_isNumber 40 = .ok (.aload_n 0, 1) := by decide +kernel
theorem dX7_isNumber_41 : decode cX7_isNumber 41 = .ok (.getfield 71, 3) := by decide +kernel
theorem dX7_isNumber_44 : decode cX7_isNumber 44 = .ok (.iaload, 1) := by decide +kernel
theorem dX7_isNumber_45 : decode cX7_isNumber 45 = .ok (.bipush 48, 2) := by decide +kernel
theorem dX7_isNumber_47 : decode cX7_isNumber 47 = .ok (.bipush 57, 2) := by decide +kernel
theorem dX7_isNumber_49 : decode cX7_isNumber 49 = .ok (.invokestatic 44, 3) := by decide +kernel
theorem dX7_isNumber_52 : decode cX7_isNumber 52 = .ok (.ifCond .eq 33, 3) := by decide +kernel
theorem dX7_isNumber_55 : decode cX7_isNumber 55 = .ok (.bipush 10, 2) := by decide +kernel
theorem dX7_isNumber_57 : decode cX7_isNumber 57 = .ok (.iload 4, 2) := by decide +kernel
theorem dX7_isNumber_59 : decode cX7_isNumber 59 = .ok (.imul, 1) := by decide +kernel
theorem dX7_isNumber_60 : decode cX7_isNumber 60 = .ok (.aload_n 0, 1) := by decide +kernel
theorem dX7_isNumber_61 : decode cX7_isNumber 61 = .ok (.getfield 20, 3) := by decide +kernel
theorem dX7_isNumber_64 : decode cX7_isNumber 64 = .ok (.aload_n 0, 1) := by decide +kernel
theorem dX7_isNumber_65 : decode cX7_isNumber 65 = .ok (.getfield 71, 3) := by decide +kernel
theorem dX7_isNumber_68 : decode cX7_isNumber 68 = .ok (.iaload, 1) := by decide +kernel
theorem dX7_isNumber_69 : decode cX7_isNumber 69 = .ok (.iadd, 1) := by decide +kernel
theorem dX7_isNumber_70 : decode cX7_isNumber 70 = .ok (.bipush 48, 2) := by decide +kernel
theorem dX7_isNumber_72 : decode cX7_isNumber 72 = .ok (.isub, 1) := by decide +kernel
theorem dX7_isNumber_73 : decode cX7_isNumber 73 = .ok (.istore 4, 2) := by decide +kernel
theorem dX7_isNumber_75 : decode cX7_isNumber 75 = .ok (.aload_n 0, 1) := by decide +kernel
theorem dX7_isNumber_76 : decode cX7_isNumber 76 = .ok (.dup, 1) := by decide +kernel
theorem dX7_isNumber_77 : decode cX7_isNumber 77 = .ok (.getfield 71, 3) := by decide +kernel
theorem dX7_isNumber_80 : decode cX7_isNumber 80 = .ok (.iconst 1, 1) := by decide +kernel
theorem dX7_isNumber_81 : decode cX7_isNumber 81 = .ok (.iadd, 1) := by decide +kernel
theorem dX7_isNumber_82 : decode cX7_isNumber 82 = .ok (.putfield 71, 3) := by decide +kernel
theorem dX7_isNumber_85 : decode cX7_isNumber 85 = .ok (.aload_n 0, 1) := by decide +kernel
theorem dX7_isNumber_86 : decode cX7_isNumber 86 = .ok (.iload 4, 2) := by decide +kernel
theorem dX7_isNumber_88 : decode cX7_isNumber 88 = .ok (.putfield 78, 3) := by decide +kernel
theorem dX7_isNumber_91 : decode cX7_isNumber 91 = .ok (.iload 4, 2) := by decide +kernel
theorem dX7_isNumber_93 : decode cX7_isNumber 93 = .ok (.iload_n 1, 1) := by decide +kernel
theorem dX7_isNumber_94 : decode cX7_isNumber 94 = .ok (.iload_n 2, 1) := by decide +kernel
theorem dX7_isNumber_95 : decode cX7_isNumber 95 = .ok (.invokestatic 44, 3) := by decide +kernel
theorem dX7_isNumber_98 : decode cX7_isNumber 98 = .ok (.ifCond .ne 10, 3) := by decide +kernel
theorem dX7_isNumber_101 : decode cX7_isNumber 101 = .ok (.aload_n 0, 1) := by decide +kernel
theorem dX7_isNumber_102 : decode cX7_isNumber 102 = .ok (.iload_n 3, 1) := by decide +kernel
theorem dX7_isNumber_103 : decode cX7_isNumber 103 = .ok (.putfield 71, 3) := by decide +kernel
theorem dX7_isNumber_106 : decode cX7_isNumber 106 = .ok (.iconst 0, 1) := by decide +kernel
theorem dX7_isNumber_107 : decode cX7_isNumber 107 = .ok (.ireturn, 1) := by decide +kernel
theorem dX7_isNumber_108 : decode cX7_isNumber 108 = .ok (.aload_n 0, 1) := by decide +kernel
theorem dX7_isNumber_109 : decode cX7_isNumber 109 = .ok (.getfield 71, 3) := by decide +kernel
theorem dX7_isNumber_112 : decode cX7_isNumber 112 = .ok (.aload_n 0, 1) := by decide +kernel
theorem dX7_isNumber_113 : decode cX7_isNumber 113 = .ok (.getfield 67, 3) := by decide +kernel
theorem dX7_isNumber_116 : decode cX7_isNumber 116 = .ok (.if_icmp .eq 22, 3) := by decide +kernel
theorem dX7_isNumber_119 : decode cX7_isNumber 119 = .ok (.aload_n 0, 1) := by decide +kernel
theorem dX7_isNumber_120 : decode cX7_isNumber 120 = .ok (.getfield 20, 3) := by decide +kernel
theorem dX7_isNumber_123 : decode cX7_isNumber 123 = .ok (.aload_n 0, 1) := by decide +kernel
theorem dX7_isNumber_124 : decode cX7_isNumber 124 = .ok (.getfield 71, 3) := by decide +kernel
theorem dX7_isNumber_127 : decode cX7_isNumber 127 = .ok (.iaload, 1) := by decide +kernel
theorem dX7_isNumber_128 : decode cX7_isNumber 128 = .ok (.bipush 48, 2) := by decide +kernel
theorem dX7_isNumber_130 : decode cX7_isNumber 130 = .ok (.bipush 57, 2) := by decide +kernel
theorem dX7_isNumber_132 : decode cX7_isNumber 132 = .ok (.invokestatic 44, 3) := by decide +kernel
theorem dX7_isNumber_135 : decode cX7_isNumber 135 = .ok (.ifCond .ne 7, 3) := by decide +kernel
theorem dX7_isNumber_138 : decode cX7_isNumber 138 = .ok (.iconst 1, 1) := by decide +kernel
theorem dX7_isNumber_139 : decode cX7_isNumber 139 = .ok (.goto 4, 3) := by decide +kernel
theorem dX7_isNumber_142 : decode cX7_isNumber 142 = .ok (.iconst 0, 1) := by decide +kernel
theorem dX7_isNumber_143 : decode cX7_isNumber 143 = .ok (.ireturn, 1) := by decide +kernel
theorem dX7_kindBy_0 : decode cX7_kindBy 0 = .ok (.iload_n 0, 1) := by decide +kernel
theorem dX7_kindBy_1 : decode cX7_kindBy 1 = .ok (.bipush 114, 2) := by decide +kernel
theorem dX7_kindBy_3 : decode cX7_kindBy 3 = .ok (.if_icmp .ne 7, 3) := by decide +kernel
theorem dX7_kindBy_6 : decode cX7_kindBy 6 = .ok (.iconst 0, 1) := by decide +kernel
theorem dX7_kindBy_7 : decode cX7_kindBy 7 = .ok (.goto 44, 3) := by decide +kernel
theorem dX7_kindBy_10 : decode cX7_kindBy 10 = .ok (.iload_n 0, 1) := by decide +kernel
theorem dX7_kindBy_11 : decode cX7_kindBy 11 = .ok (.bipush 119, 2) := by decide +kernel
theorem dX7_kindBy_13 : decode cX7_kindBy 13 = .ok (.if_icmp .ne 7, 3) := by decide +kernel
theorem dX7_kindBy_16 : decode cX7_kindBy 16 = .ok (.iconst 1, 1) := by decide +kernel
theorem dX7_kindBy_17 : decode cX7_kindBy 17 = .ok (.goto 34, 3) := by decide +kernel
theorem dX7_kindBy_20 : decode cX7_kindBy 20 = .ok (.iload_n 0, 1) := by decide +kernel
theorem dX7_kindBy_21 : decode cX7_kindBy 21 = .ok (.bipush 115, 2) := by decide +kernel
theorem dX7_kindBy_23 : decode cX7_kindBy 23 = .ok (.if_icmp .ne 7, 3) := by decide +kernel
theorem dX7_kindBy_26 : decode cX7_kindBy 26 = .ok (.iconst 2, 1) := by decide +kernel
theorem dX7_kindBy_27 : decode cX7_kindBy 27 = .ok (.goto 24, 3) := by decide +kernel
theorem dX7_kindBy_30 : decode cX7_kindBy 30 = .ok (.iload_n 0, 1) := by decide +kernel
theorem dX7_kindBy_31 : decode cX7_kindBy 31 = .ok (.bipush 121, 2) := by decide +kernel
theorem dX7_kindBy_33 : decode cX7_kindBy 33 = .ok (.if_icmp .ne 7, 3) := by decide +kernel
theorem dX7_kindBy_36 : decode cX7_kindBy 36 = .ok (.iconst 3, 1) := by decide +kernel
theorem dX7_kindBy_37 : decode cX7_kindBy 37 = .ok (.goto 14, 3) := by decide +kernel
theorem dX7_kindBy_40 : decode cX7_kindBy 40 = .ok (.iload_n 0, 1) := by decide +kernel
theorem dX7_kindBy_41 : decode cX7_kindBy 41 = .ok (.bipush 116, 2) := by decide +kernel
theorem dX7_kindBy_43 : decode cX7_kindBy 43 = .ok (.if_icmp .ne 7, 3) := by decide +kernel
theorem dX7_kindBy_46 : decode cX7_kindBy 46 = .ok (.iconst 4, 1) := by decide +kernel
theorem dX7_kindBy_47 : decode cX7_kindBy 47 = .ok (.goto 4, 3) := by decide +kernel
theorem dX7_kindBy_50 : decode cX7_kindBy 50 = .ok (.iconst (-1), 1) := by decide +kernel
theorem dX7_kindBy_51 : decode cX7_kindBy 51 = .ok (.ireturn, 1) := by decide +kernel
set_option maxRecDepth 20000 in
theorem ggX7_isCoatItem_X7_peek : GoodIn wsX7_isCoatItem wsX7_peek := goodIn_r _ [8, 1, 9, 10, 32, 33, 34, 35, 36, 37, 38, 39, 40, 41, 42, 43, 44, 45, 46] (by decide +kernel) (by decide +kernel)
set_option maxRecDepth 20000 in
theorem gX7_isCoatItem_X7_peek : GoodIn wsX7_isCoatItem (wsV RX7 74 RX7 yX7_peek wsX7_peek) := goodIn_app (goodIn_of _ (by decide +kernel)) ggX7_isCoatItem_X7_peek
set_option maxRecDepth 20000 in
theorem ggX7_isCoatItem_X7_kindBy : GoodIn wsX7_isCoatItem wsX7_kindBy := goodIn_r _ [13] (by decide +kernel) (by decide +kernel)
set_option maxRecDepth 20000 in
theorem gX7_isCoatItem_X7_kindBy : GoodIn wsX7_isCoatItem (va_wsS RX7 85 yX7_kindBy wsX7_kindBy) := goodIn_app (goodIn_of _ (by decide +kernel)) ggX7_isCoatItem_X7_kindBy
set_option maxRecDepth 20000 in
theorem ggX7_isCoatItem_X7_isNumber : GoodIn wsX7_isCoatItem wsX7_isNumber := goodIn_r _ [17, 1, 3, 9, 10, 18, 19, 20, 7, 21, 4, 5, 6, 8, 22, 23, 24, 32, 33, 34, 35, 36, 37, 38, 39, 40, 41, 42, 43, 44, 45, 46] (by decide +kernel) (by decide +kernel)
set_option maxRecDepth 20000 in
theorem gX7_isCoatItem_X7_isNumber : GoodIn wsX7_isCoatItem (wsV RX7 88 RX7 yX7_isNumber wsX7_isNumber) := goodIn_app (goodIn_of _ (by decide +kernel)) ggX7_isCoatItem_X7_isNumber
set_option maxRecDepth 20000 in
theorem ggX7_isCoatItem_X7_addCoat : GoodIn wsX7_isCoatItem wsX7_addCoat := goodIn_r _ [27] (by decide +kernel) (by decide +kernel)
set_option maxRecDepth 20000 in
theorem gX7_isCoatItem_X7_addCoat : GoodIn wsX7_isCoatItem (va_wsS RX7 91 yX7_addCoat wsX7_addCoat) := goodIn_app (goodIn_of _ (by decide +kernel)) ggX7_isCoatItem_X7_addCoat
set_option maxRecDepth 20000 in
theorem ggX7_isCoatItem_X7_isSign : GoodIn wsX7_isCoatItem wsX7_isSign := goodIn_r _ [31, 1, 4, 5, 6, 7, 8, 9, 10, 32, 33, 34, 35, 36, 37, 38, 39, 40, 41, 42, 43, 44, 45, 46] (by decide +kernel) (by decide +kernel)
set_option maxRecDepth 20000 in
theorem gX7_isCoatItem_X7_isSign : GoodIn wsX7_isCoatItem (wsV RX7 95 RX7 yX7_isSign wsX7_isSign) := goodIn_app (goodIn_of _ (by decide +kernel)) ggX7_isCoatItem_X7_isSign
set_option maxRecDepth 20000 in
theorem ggX7_isCoatItem_X7_isDigit : GoodIn wsX7_isCoatItem wsX7_isDigit := goodIn_r _ [21, 3, 1, 4, 5, 6, 7, 8, 9, 10, 22, 23, 24, 32, 33, 34, 35, 36, 37, 38, 39, 40, 41, 42, 43, 44, 45, 46] (by decide +kernel) (by decide +kernel)
set_option maxRecDepth 20000 in
theorem gX7_isCoatItem_X7_isDigit : GoodIn wsX7_isCoatItem (wsV RX7 81 RX7 yX7_isDigit wsX7_isDigit) := goodIn_app (goodIn_of _ (by decide +kernel)) ggX7_isCoatItem_X7_isDigit
theorem dX7_isCoatItem_0 : decode cX7_isCoatItem 0 = .ok (.aload_n 0, 1) := by decide +kernel
theorem dX7_isCoatItem_1 : decode cX7_isCoatItem 1 = .ok (.invokevirtual 74, 3) := by decide +kernel
theorem dX7_isCoatItem_4 : decode cX7_isCoatItem 4 = .ok (.invokestatic 85, 3) := by decide +kernel
theorem dX7_isCoatItem_7 : decode cX7_isCoatItem 7 = .ok (.istore_n 1, 1) := by decide +kernel
theorem dX7_isCoatItem_8 : decode cX7_isCoatItem 8 = .ok (.iload_n 1, 1) := by decide +kernel
theorem dX7_isCoatItem_9 : decode cX7_isCoatItem 9 = .ok (.ifCond .ge 5, 3) := by decide +kernel
theorem dX7_isCoatItem_12 : decode cX7_isCoatItem 12 = .ok (.iconst 0, 1) := by decide +kernel
theorem dX7_isCoatItem_13 : decode cX7_isCoatItem 13 = .ok (.ireturn, 1) := by decide +kernel
theorem dX7_isCoatItem_14 : decode cX7_isCoatItem 14 = .ok (.aload_n 0, 1) := by decide +kernel
theorem dX7_isCoatItem_15 : decode cX7_isCoatItem 15 = .ok (.dup, 1) := by decide +kernel
theorem dX7_isCoatItem_16 : decode cX7_isCoatItem 16 = .ok (.getfield 71, 3) := by decide +kernel
theorem dX7_isCoatItem_19 : decode cX7_isCoatItem 19 = .ok (.iconst 1, 1) := by decide +kernel
theorem dX7_isCoatItem_20 : decode cX7_isCoatItem 20 = .ok (.iadd, 1) := by decide +kernel
theorem dX7_isCoatItem_21 : decode cX7_isCoatItem 21 = .ok (.putfield 71, 3) := by decide +kernel
theorem dX7_isCoatItem_24 : decode cX7_isCoatItem 24 = .ok (.aload_n 0, 1) := by decide +kernel
theorem dX7_isCoatItem_25 : decode cX7_isCoatItem 25 = .ok (.iconst 1, 1) := by decide +kernel
theorem dX7_isCoatItem_26 : decode cX7_isCoatItem 26 = .ok (.bipush 20, 2) := by decide +kernel
theorem dX7_isCoatItem_28 : decode cX7_isCoatItem 28 = .ok (.invokevirtual 88, 3) := by decide +kernel
theorem dX7_isCoatItem_31 : decode cX7_isCoatItem 31 = .ok (.ifCond .ne 5, 3) := by decide +kernel
theorem dX7_isCoatItem_34 : decode cX7_isCoatItem 34 = .ok (.iconst 0, 1) := by decide +kernel
theorem dX7_isCoatItem_35 : decode cX7_isCoatItem 35 = .ok (.ireturn, 1) := by decide +kernel
theorem dX7_isCoatItem_36 : decode cX7_isCoatItem 36 = .ok (.aload_n 0, 1) := by decide +kernel
theorem dX7_isCoatItem_37 : decode cX7_isCoatItem 37 = .ok (.getfield 29, 3) := by decide +kernel
theorem dX7_isCoatItem_40 : decode cX7_isCoatItem 40 = .ok (.iload_n 1, 1) := by decide +kernel
theorem dX7_isCoatItem_41 : decode cX7_isCoatItem 41 = .ok (.aload_n 0, 1) := by decide +kernel
theorem dX7_isCoatItem_42 : decode cX7_isCoatItem 42 = .ok (.getfield 78, 3) := by decide +kernel
theorem dX7_isCoatItem_45 : decode cX7_isCoatItem 45 = .ok (.iconst 0, 1) := by decide +kernel
theorem dX7_isCoatItem_46 : decode cX7_isCoatItem 46 = .ok (.invokestatic 91, 3) := by decide +kernel
theorem dX7_isCoatItem_49 : decode cX7_isCoatItem 49 = .ok (.istore_n 2, 1) := by decide +kernel
theorem dX7_isCoatItem_50 : decode cX7_isCoatItem 50 = .ok (.aload_n 0, 1) := by decide +kernel
theorem dX7_isCoatItem_51 : decode cX7_isCoatItem 51 = .ok (.bipush 126, 2) := by decide +kernel
theorem dX7_isCoatItem_53 : decode cX7_isCoatItem 53 = .ok (.invokevirtual 95, 3) := by decide +kernel
theorem dX7_isCoatItem_56 : decode cX7_isCoatItem 56 = .ok (.ifCond .eq 28, 3) := by decide +kernel
theorem dX7_isCoatItem_59 : decode cX7_isCoatItem 59 = .ok (.aload_n 0, 1) := by decide +kernel
theorem dX7_isCoatItem_60 : decode cX7_isCoatItem 60 = .ok (.iconst 0, 1) := by decide +kernel
theorem dX7_isCoatItem_61 : decode cX7_isCoatItem 61 = .ok (.bipush 9, 2) := by decide +kernel
theorem dX7_isCoatItem_63 : decode cX7_isCoatItem 63 = .ok (.invokevirtual 81, 3) := by decide +kernel
theorem dX7_isCoatItem_66 : decode cX7_isCoatItem 66 = .ok (.ifCond .ne 5, 3) := by decide +kernel
theorem dX7_isCoatItem_69 : decode cX7_isCoatItem 69 = .ok (.iconst 0, 1) := by decide +kernel
theorem dX7_isCoatItem_70 : decode cX7_isCoatItem 70 = .ok (.ireturn, 1) := by decide +kernel
theorem dX7_isCoatItem_71 : decode cX7_isCoatItem 71 = .ok (.aload_n 0, 1) := by decide +kernel
theorem dX7_isCoatItem_72 : decode cX7_isCoatItem 72 = .ok (.getfield 29, 3) := by decide +kernel
theorem dX7_isCoatItem_75 : decode cX7_isCoatItem 75 = .ok (.bipush 24, 2) := by decide +kernel
theorem dX7_isCoatItem_77 : decode cX7_isCoatItem 77 = .ok (.iload_n 2, 1) := by decide +kernel
theorem dX7_isCoatItem_78 : decode cX7_isCoatItem 78 = .ok (.iadd, 1) := by decide +kernel
theorem dX7_isCoatItem_79 : decode cX7_isCoatItem 79 = .ok (.aload_n 0, 1) := by decide +kernel
theorem dX7_isCoatItem_80 : decode cX7_isCoatItem 80 = .ok (.getfield 78, 3) := by decide +kernel
theorem dX7_isCoatItem_83 : decode cX7_isCoatItem 83 = .ok (.iastore, 1) := by decide +kernel
theorem dX7_isCoatItem_84 : decode cX7_isCoatItem 84 = .ok (.iconst 1, 1) := by decide +kernel
theorem dX7_isCoatItem_85 : decode cX7_isCoatItem 85 = .ok (.ireturn, 1) := by decide +kernel
set_option maxRecDepth 20000 in
theorem ggX7_isRoof_X7_isNumber : GoodIn wsX7_isRoof wsX7_isNumber := goodIn_r _ [7, 8, 2, 9, 10, 11, 12, 13, 6, 14, 15, 16, 17, 18, 19, 20, 21, 39, 40, 41, 42, 43, 44, 45, 46, 47, 48, 49, 50, 51, 52, 53] (by decide +kernel) (by decide +kernel)
set_option maxRecDepth 20000 in
theorem gX7_isRoof_X7_isNumber : GoodIn wsX7_isRoof (wsV RX7 88 RX7 yX7_isNumber wsX7_isNumber) := goodIn_app (goodIn_of _ (by decide +kernel)) ggX7_isRoof_X7_isNumber
set_option maxRecDepth 20000 in
theorem ggX7_isRoof_X7_isSign : GoodIn wsX7_isRoof wsX7_isSign := goodIn_r _ [25, 8, 15, 16, 17, 6, 18, 9, 10, 39, 40, 41, 42, 43, 44, 45, 46, 47, 48, 49, 50, 51, 52, 53] (by decide +kernel) (by decide +kernel)
set_option maxRecDepth 20000 in
theorem gX7_isRoof_X7_isSign : GoodIn wsX7_isRoof (wsV RX7 95 RX7 yX7_isSign wsX7_isSign) := goodIn_app (goodIn_of _ (by decide +kernel)) ggX7_isRoof_X7_isSign
set_option maxRecDepth 20000 in
theorem ggX7_isRoof_X7_addRain : GoodIn wsX7_isRoof wsX7_addRain := goodIn_r _ [28] (by decide +kernel) (by decide +kernel)
set_option maxRecDepth 20000 in
theorem gX7_isRoof_X7_addRain : GoodIn wsX7_isRoof (va_wsS RX7 48 yX7_addRain wsX7_addRain) := goodIn_app (goodIn_of _ (by decide +kernel)) ggX7_isRoof_X7_addRain
set_option maxRecDepth 20000 in
theorem ggX7_isRoof_X7_isCoatItem : GoodIn wsX7_isRoof wsX7_isCoatItem := goodIn_r _ [32, 8, 1, 2, 15, 16, 17, 6, 18, 9, 10, 33, 34, 35, 3, 4, 5, 7, 11, 12, 13, 14, 19, 20, 21, 36, 37, 38, 22, 23, 24, 25, 39, 40, 41, 42, 43, 44, 45, 46, 47, 48, 49, 50, 51, 52, 53] (by decide +kernel) (by decide +kernel)
set_option maxRecDepth 20000 in
theorem gX7_isRoof_X7_isCoatItem : GoodIn wsX7_isRoof (wsV RX7 98 RX7 yX7_isCoatItem wsX7_isCoatItem) := goodIn_app (goodIn_of _ (by decide +kernel)) ggX7_isRoof_X7_isCoatItem
set_option maxRecDepth 20000 in
theorem ggX7_isRoof_X7_peek : GoodIn wsX7_isRoof wsX7_peek := goodIn_r _ [18, 8, 9, 10, 39, 40, 41, 42, 43, 44, 45, 46, 47, 48, 49, 50, 51, 52, 53] (by decide +kernel) (by decide +kernel)
set_option maxRecDepth 20000 in
theorem gX7_isRoof_X7_peek : GoodIn wsX7_isRoof (wsV RX7 74 RX7 yX7_peek wsX7_peek) := goodIn_app (goodIn_of _ (by decide +kernel)) ggX7_isRoof_X7_peek
theorem dX7_isRoof_0 : decode cX7_isRoof 0 = .ok (.aload_n 0, 1) := by decide +kernel
theorem dX7_isRoof_1 : decode cX7_isRoof 1 = .ok (.iconst 1, 1) := by decide +kernel
theorem dX7_isRoof_2 : decode cX7_isRoof 2 = .ok (.bipush 99, 2) := by decide +kernel
theorem dX7_isRoof_4 : decode cX7_isRoof 4 = .ok (.invokevirtual 88, 3) := by decide +kernel
theorem dX7_isRoof_7 : decode cX7_isRoof 7 = .ok (.ifCond .ne 5, 3) := by decide +kernel
theorem dX7_isRoof_10 : decode cX7_isRoof 10 = .ok (.iconst 0, 1) := by decide +kernel
theorem dX7_isRoof_11 : decode cX7_isRoof 11 = .ok (.ireturn, 1) := by decide +kernel
theorem dX7_isRoof_12 : decode cX7_isRoof 12 = .ok (.aload_n 0, 1) := by decide +kernel
theorem dX7_isRoof_13 : decode cX7_isRoof 13 = .ok (.getfield 29, 3) := by decide +kernel
theorem dX7_isRoof_16 : decode cX7_isRoof 16 = .ok (.bipush 44, 2) := by decide +kernel
theorem dX7_isRoof_18 : decode cX7_isRoof 18 = .ok (.iconst 2, 1) := by decide +kernel
theorem dX7_isRoof_19 : decode cX7_isRoof 19 = .ok (.aload_n 0, 1) := by decide +kernel
theorem dX7_isRoof_20 : decode cX7_isRoof 20 = .ok (.getfield 78, 3) := by decide +kernel
theorem dX7_isRoof_23 : decode cX7_isRoof 23 = .ok (.imul, 1) := by decide +kernel
theorem dX7_isRoof_24 : decode cX7_isRoof 24 = .ok (.iastore, 1) := by decide +kernel
theorem dX7_isRoof_25 : decode cX7_isRoof 25 = .ok (.aload_n 0, 1) := by decide +kernel
theorem dX7_isRoof_26 : decode cX7_isRoof 26 = .ok (.getfield 29, 3) := by decide +kernel
theorem dX7_isRoof_29 : decode cX7_isRoof 29 = .ok (.bipush 45, 2) := by decide +kernel
theorem dX7_isRoof_31 : decode cX7_isRoof 31 = .ok (.iaload, 1) := by decide +kernel
theorem dX7_isRoof_32 : decode cX7_isRoof 32 = .ok (.bipush 8, 2) := by decide +kernel
theorem dX7_isRoof_34 : decode cX7_isRoof 34 = .ok (.if_icmp .ge 38, 3) := by decide +kernel
theorem dX7_isRoof_37 : decode cX7_isRoof 37 = .ok (.aload_n 0, 1) := by decide +kernel
theorem dX7_isRoof_38 : decode cX7_isRoof 38 = .ok (.bipush 43, 2) := by decide +kernel
theorem dX7_isRoof_40 : decode cX7_isRoof 40 = .ok (.invokevirtual 95, 3) := by decide +kernel
theorem dX7_isRoof_43 : decode cX7_isRoof 43 = .ok (.ifCond .eq 29, 3) := by decide +kernel
theorem dX7_isRoof_46 : decode cX7_isRoof 46 = .ok (.aload_n 0, 1) := by decide +kernel
theorem dX7_isRoof_47 : decode cX7_isRoof 47 = .ok (.iconst 0, 1) := by decide +kernel
theorem dX7_isRoof_48 : decode cX7_isRoof 48 = .ok (.bipush 40, 2) := by decide +kernel
theorem dX7_isRoof_50 : decode cX7_isRoof 50 = .ok (.invokevirtual 88, 3) := by decide +kernel
theorem dX7_isRoof_53 : decode cX7_isRoof 53 = .ok (.ifCond .ne 5, 3) := by decide +kernel
theorem dX7_isRoof_56 : decode cX7_isRoof 56 = .ok (.iconst 0, 1) := by decide +kernel
theorem dX7_isRoof_57 : decode cX7_isRoof 57 = .ok (.ireturn, 1) := by decide +kernel
theorem dX7_isRoof_58 : decode cX7_isRoof 58 = .ok (.aload_n 0, 1) := by decide +kernel
theorem dX7_isRoof_59 : decode cX7_isRoof 59 = .ok (.getfield 29, 3) := by decide +kernel
theorem dX7_isRoof_62 : decode cX7_isRoof 62 = .ok (.aload_n 0, 1) := by decide +kernel
theorem dX7_isRoof_63 : decode cX7_isRoof 63 = .ok (.getfield 78, 3) := by decide +kernel
theorem dX7_isRoof_66 : decode cX7_isRoof 66 = .ok (.invokestatic 48, 3) := by decide +kernel
theorem dX7_isRoof_69 : decode cX7_isRoof 69 = .ok (.goto (-44), 3) := by decide +kernel
theorem dX7_isRoof_72 : decode cX7_isRoof 72 = .ok (.aload_n 0, 1) := by decide +kernel
theorem dX7_isRoof_73 : decode cX7_isRoof 73 = .ok (.bipush 59, 2) := by decide +kernel
theorem dX7_isRoof_75 : decode cX7_isRoof 75 = .ok (.invokevirtual 95, 3) := by decide +kernel
theorem dX7_isRoof_78 : decode cX7_isRoof 78 = .ok (.istore_n 1, 1) := by decide +kernel
theorem dX7_isRoof_79 : decode cX7_isRoof 79 = .ok (.iload_n 1, 1) := by decide +kernel
theorem dX7_isRoof_80 : decode cX7_isRoof 80 = .ok (.ifCond .eq 41, 3) := by decide +kernel
theorem dX7_isRoof_83 : decode cX7_isRoof 83 = .ok (.aload_n 0, 1) := by decide +kernel
theorem dX7_isRoof_84 : decode cX7_isRoof 84 = .ok (.invokevirtual 98, 3) := by decide +kernel
theorem dX7_isRoof_87 : decode cX7_isRoof 87 = .ok (.ifCond .ne 5, 3) := by decide +kernel
theorem dX7_isRoof_90 : decode cX7_isRoof 90 = .ok (.iconst 0, 1) := by decide +kernel
theorem dX7_isRoof_91 : decode cX7_isRoof 91 = .ok (.ireturn, 1) := by decide +kernel
theorem dX7_isRoof_92 : decode cX7_isRoof 92 = .ok (.aload_n 0, 1) := by decide +kernel
theorem dX7_isRoof_93 : decode cX7_isRoof 93 = .ok (.getfield 29, 3) := by decide +kernel
theorem dX7_isRoof_96 : decode cX7_isRoof 96 = .ok (.iconst 3, 1) := by decide +kernel
theorem dX7_isRoof_97 : decode cX7_isRoof 97 = .ok (.iaload, 1) := by decide +kernel
theorem dX7_isRoof_98 : decode cX7_isRoof 98 = .ok (.bipush 10, 2) := by decide +kernel
theorem dX7_isRoof_100 : decode cX7_isRoof 100 = .ok (.if_icmp .ge 16, 3) := by decide +kernel
theorem dX7_isRoof_103 : decode cX7_isRoof 103 = .ok (.aload_n 0, 1) := by decide +kernel
theorem dX7_isRoof_104 : decode cX7_isRoof 104 = .ok (.bipush 44, 2) := by decide +kernel
theorem dX7_isRoof_106 : decode cX7_isRoof 106 = .ok (.invokevirtual 95, 3) := by decide +kernel
theorem dX7_isRoof_109 : decode cX7_isRoof 109 = .ok (.ifCond .eq 7, 3) := by decide +kernel
theorem dX7_isRoof_112 : decode cX7_isRoof 112 = .ok (.iconst 1, 1) := by decide +kernel
theorem dX7_isRoof_113 : decode cX7_isRoof 113 = .ok (.goto 4, 3) := by decide +kernel
theorem dX7_isRoof_116 : decode cX7_isRoof 116 = .ok (.iconst 0, 1) := by decide +kernel
theorem dX7_isRoof_117 : decode cX7_isRoof 117 = .ok (.istore_n 1, 1) := by decide +kernel
theorem dX7_isRoof_118 : decode cX7_isRoof 118 = .ok (.goto (-39), 3) := by decide +kernel
theorem dX7_isRoof_121 : decode cX7_isRoof 121 = .ok (.aload_n 0, 1) := by decide +kernel
theorem dX7_isRoof_122 : decode cX7_isRoof 122 = .ok (.invokevirtual 74, 3) := by decide +kernel
theorem dX7_isRoof_125 : decode cX7_isRoof 125 = .ok (.ifCond .ne 7, 3) := by decide +kernel
theorem dX7_isRoof_128 : decode cX7_isRoof 128 = .ok (.iconst 1, 1) := by decide +kernel
theorem dX7_isRoof_129 : decode cX7_isRoof 129 = .ok (.goto 4, 3) := by decide +kernel
theorem dX7_isRoof_132 : decode cX7_isRoof 132 = .ok (.iconst 0, 1) := by decide +kernel
theorem dX7_isRoof_133 : decode cX7_isRoof 133 = .ok (.ireturn, 1) := by decide +kernel
set_option maxRecDepth 20000 in
theorem ggX7_roof_X7_isRoof : GoodIn wsX7_roof wsX7_isRoof := goodIn_r _ [9, 1, 10, 11, 12, 13, 8, 14, 3, 4, 15, 16, 17, 18, 19, 20, 21, 22, 23, 24, 25, 26, 27, 28, 29, 30, 31, 32, 33, 34, 35, 36, 37, 38, 39, 40, 41, 42, 43, 47, 48, 49, 50, 51, 52, 53, 54, 55, 56, 57, 58, 59, 60, 61] (by decide +kernel) (by decide +kernel)
set_option maxRecDepth 20000 in
theorem gX7_roof_X7_isRoof : GoodIn wsX7_roof (wsV RX7 102 RX7 yX7_isRoof wsX7_isRoof) := goodIn_app (goodIn_of _ (by decide +kernel)) ggX7_roof_X7_isRoof
set_option maxRecDepth 20000 in
theorem ggX7_roof_X7_bring : GoodIn wsX7_roof wsX7_bring := goodIn_r _ [46] (by decide +kernel) (by decide +kernel)
set_option maxRecDepth 20000 in
theorem gX7_roof_X7_bring : GoodIn wsX7_roof (va_wsS RX7 105 yX7_bring wsX7_bring) := goodIn_app (goodIn_of _ (by decide +kernel)) ggX7_roof_X7_bring
theorem dX7_roof_0 : decode cX7_roof 0 = .ok (.iconst 0, 1) := by decide +kernel
theorem dX7_roof_1 : decode cX7_roof 1 = .ok (.istore_n 1, 1) := by decide +kernel
theorem dX7_roof_2 : decode cX7_roof 2 = .ok (.iload_n 1, 1) := by decide +kernel
theorem dX7_roof_3 : decode cX7_roof 3 = .ok (.sipush 407, 3) := by decide +kernel
theorem dX7_roof_6 : decode cX7_roof 6 = .ok (.if_icmp .ge 16, 3) := by decide +kernel
theorem dX7_roof_9 : decode cX7_roof 9 = .ok (.aload_n 0, 1) := by decide +kernel
theorem dX7_roof_10 : decode cX7_roof 10 = .ok (.getfield 29, 3) := by decide +kernel
theorem dX7_roof_13 : decode cX7_roof 13 = .ok (.iload_n 1, 1) := by decide +kernel
theorem dX7_roof_14 : decode cX7_roof 14 = .ok (.iconst 0, 1) := by decide +kernel
theorem dX7_roof_15 : decode cX7_roof 15 = .ok (.iastore, 1) := by decide +kernel
theorem dX7_roof_16 : decode cX7_roof 16 = .ok (.iinc 1 1, 3) := by decide +kernel
theorem dX7_roof_19 : decode cX7_roof 19 = .ok (.goto (-17), 3) := by decide +kernel
theorem dX7_roof_22 : decode cX7_roof 22 = .ok (.aload_n 0, 1) := by decide +kernel
theorem dX7_roof_23 : decode cX7_roof 23 = .ok (.getfield 29, 3) := by decide +kernel
theorem dX7_roof_26 : decode cX7_roof 26 = .ok (.iconst 1, 1) := by decide +kernel
theorem dX7_roof_27 : decode cX7_roof 27 = .ok (.aload_n 0, 1) := by decide +kernel
theorem dX7_roof_28 : decode cX7_roof 28 = .ok (.getfield 23, 3) := by decide +kernel
theorem dX7_roof_31 : decode cX7_roof 31 = .ok (.iconst 1, 1) := by decide +kernel
theorem dX7_roof_32 : decode cX7_roof 32 = .ok (.iaload, 1) := by decide +kernel
theorem dX7_roof_33 : decode cX7_roof 33 = .ok (.iastore, 1) := by decide +kernel
theorem dX7_roof_34 : decode cX7_roof 34 = .ok (.aload_n 0, 1) := by decide +kernel
theorem dX7_roof_35 : decode cX7_roof 35 = .ok (.iconst 0, 1) := by decide +kernel
theorem dX7_roof_36 : decode cX7_roof 36 = .ok (.putfield 71, 3) := by decide +kernel
theorem dX7_roof_39 : decode cX7_roof 39 = .ok (.aload_n 0, 1) := by decide +kernel
theorem dX7_roof_40 : decode cX7_roof 40 = .ok (.invokevirtual 102, 3) := by decide +kernel
theorem dX7_roof_43 : decode cX7_roof 43 = .ok (.istore_n 1, 1) := by decide +kernel
theorem dX7_roof_44 : decode cX7_roof 44 = .ok (.aload_n 0, 1) := by decide +kernel
theorem dX7_roof_45 : decode cX7_roof 45 = .ok (.iconst 0, 1) := by decide +kernel
theorem dX7_roof_46 : decode cX7_roof 46 = .ok (.putfield 67, 3) := by decide +kernel
theorem dX7_roof_49 : decode cX7_roof 49 = .ok (.iload_n 1, 1) := by decide +kernel
theorem dX7_roof_50 : decode cX7_roof 50 = .ok (.ifCond .ne 11, 3) := by decide +kernel
theorem dX7_roof_53 : decode cX7_roof 53 = .ok (.bipush (-20), 2) := by decide +kernel
theorem dX7_roof_55 : decode cX7_roof 55 = .ok (.aload_n 0, 1) := by decide +kernel
theorem dX7_roof_56 : decode cX7_roof 56 = .ok (.getfield 71, 3) := by decide +kernel
theorem dX7_roof_59 : decode cX7_roof 59 = .ok (.isub, 1) := by decide +kernel
theorem dX7_roof_60 : decode cX7_roof 60 = .ok (.ireturn, 1) := by decide +kernel
theorem dX7_roof_61 : decode cX7_roof 61 = .ok (.aload_n 0, 1) := by decide +kernel
theorem dX7_roof_62 : decode cX7_roof 62 = .ok (.getfield 29, 3) := by decide +kernel
theorem dX7_roof_65 : decode cX7_roof 65 = .ok (.iconst 0, 1) := by decide +kernel
theorem dX7_roof_66 : decode cX7_roof 66 = .ok (.aload_n 0, 1) := by decide +kernel
theorem dX7_roof_67 : decode cX7_roof 67 = .ok (.getfield 23, 3) := by decide +kernel
theorem dX7_roof_70 : decode cX7_roof 70 = .ok (.iconst 0, 1) := by decide +kernel
theorem dX7_roof_71 : decode cX7_roof 71 = .ok (.sipush 407, 3) := by decide +kernel
theorem dX7_roof_74 : decode cX7_roof 74 = .ok (.invokestatic 105, 3) := by decide +kernel
theorem dX7_roof_77 : decode cX7_roof 77 = .ok (.aload_n 0, 1) := by decide +kernel
theorem dX7_roof_78 : decode cX7_roof 78 = .ok (.getfield 23, 3) := by decide +kernel
theorem dX7_roof_81 : decode cX7_roof 81 = .ok (.iconst 3, 1) := by decide +kernel
theorem dX7_roof_82 : decode cX7_roof 82 = .ok (.iaload, 1) := by decide +kernel
theorem dX7_roof_83 : decode cX7_roof 83 = .ok (.ireturn, 1) := by decide +kernel
theorem dX7_sumOf_0 : decode cX7_sumOf 0 = .ok (.iconst 0, 1) := by decide +kernel
theorem dX7_sumOf_1 : decode cX7_sumOf 1 = .ok (.istore_n 2, 1) := by decide +kernel
theorem dX7_sumOf_2 : decode cX7_sumOf 2 = .ok (.iconst 0, 1) := by decide +kernel
theorem dX7_sumOf_3 : decode cX7_sumOf 3 = .ok (.istore_n 3, 1) := by decide +kernel
theorem dX7_sumOf_4 : decode cX7_sumOf 4 = .ok (.iload_n 3, 1) := by decide +kernel
theorem dX7_sumOf_5 : decode cX7_sumOf 5 = .ok (.aload_n 0, 1) := by decide +kernel
theorem dX7_sumOf_6 : decode cX7_sumOf 6 = .ok (.iconst 3, 1) := by decide +kernel
theorem dX7_sumOf_7 : decode cX7_sumOf 7 = .ok (.iaload, 1) := by decide +kernel
theorem dX7_sumOf_8 : decode cX7_sumOf 8 = .ok (.if_icmp .ge 17, 3) := by decide +kernel
theorem dX7_sumOf_11 : decode cX7_sumOf 11 = .ok (.iload_n 2, 1) := by decide +kernel
theorem dX7_sumOf_12 : decode cX7_sumOf 12 = .ok (.aload_n 0, 1) := by decide +kernel
theorem dX7_sumOf_13 : decode cX7_sumOf 13 = .ok (.iload_n 1, 1) := by decide +kernel
theorem dX7_sumOf_14 : decode cX7_sumOf 14 = .ok (.iload_n 3, 1) := by decide +kernel
theorem dX7_sumOf_15 : decode cX7_sumOf 15 = .ok (.iadd, 1) := by decide +kernel
theorem dX7_sumOf_16 : decode cX7_sumOf 16 = .ok (.iaload, 1) := by decide +kernel
theorem dX7_sumOf_17 : decode cX7_sumOf 17 = .ok (.iadd, 1) := by decide +kernel
theorem dX7_sumOf_18 : decode cX7_sumOf 18 = .ok (.istore_n 2, 1) := by decide +kernel
theorem dX7_sumOf_19 : decode cX7_sumOf 19 = .ok (.iinc 3 1, 3) := by decide +kernel
theorem dX7_sumOf_22 : decode cX7_sumOf 22 = .ok (.goto (-18), 3) := by decide +kernel
theorem dX7_sumOf_25 : decode cX7_sumOf 25 = .ok (.iload_n 2, 1) := by decide +kernel
theorem dX7_sumOf_26 : decode cX7_sumOf 26 = .ok (.ireturn, 1) := by decide +kernel
set_option maxRecDepth 20000 in
theorem ggX7_heavy_X7_sumOf : GoodIn wsX7_heavy wsX7_sumOf := goodIn_r _ [4] (by decide +kernel) (by decide +kernel)
set_option maxRecDepth 20000 in
theorem gX7_heavy_X7_sumOf : GoodIn wsX7_heavy (va_wsS RX7 109 yX7_sumOf wsX7_sumOf) := goodIn_app (goodIn_of _ (by decide +kernel)) ggX7_heavy_X7_sumOf
theorem dX7_heavy_0 : decode cX7_heavy 0 = .ok (.aload_n 0, 1) := by decide +kernel
theorem dX7_heavy_1 : decode cX7_heavy 1 = .ok (.bipush 14, 2) := by decide +kernel
theorem dX7_heavy_3 : decode cX7_heavy 3 = .ok (.invokestatic 109, 3) := by decide +kernel
theorem dX7_heavy_6 : decode cX7_heavy 6 = .ok (.aload_n 0, 1) := by decide +kernel
theorem dX7_heavy_7 : decode cX7_heavy 7 = .ok (.bipush 24, 2) := by decide +kernel
theorem dX7_heavy_9 : decode cX7_heavy 9 = .ok (.invokestatic 109, 3) := by decide +kernel
theorem dX7_heavy_12 : decode cX7_heavy 12 = .ok (.iadd, 1) := by decide +kernel
theorem dX7_heavy_13 : decode cX7_heavy 13 = .ok (.ireturn, 1) := by decide +kernel
set_option maxRecDepth 20000 in
theorem ggX7_count_X7_heavy : GoodIn wsX7_count wsX7_heavy := goodIn_r _ [5, 6, 7, 4, 8] (by decide +kernel) (by decide +kernel)
set_option maxRecDepth 20000 in
theorem gX7_count_X7_heavy : GoodIn wsX7_count (va_wsS RX7 112 yX7_heavy wsX7_heavy) := goodIn_app (goodIn_of _ (by decide +kernel)) ggX7_count_X7_heavy
set_option maxRecDepth 20000 in
theorem ggX7_count_X7_sumOf : GoodIn wsX7_count wsX7_sumOf := goodIn_r _ [8] (by decide +kernel) (by decide +kernel)
set_option maxRecDepth 20000 in
theorem gX7_count_X7_sumOf : GoodIn wsX7_count (va_wsS RX7 109 yX7_sumOf wsX7_sumOf) := goodIn_app (goodIn_of _ (by decide +kernel)) ggX7_count_X7_sumOf
theorem dX7_count_0 : decode cX7_count 0 = .ok (.iload_n 1, 1) := by decide +kernel
theorem dX7_count_1 : decode cX7_count 1 = .ok (.tableswitch 137 0 8 #[51, 58, 66, 74, 81, 88, 96, 106, 129], 51) := by decide +kernel
theorem dX7_count_52 : decode cX7_count 52 = .ok (.aload_n 0, 1) := by decide +kernel
theorem dX7_count_53 : decode cX7_count 53 = .ok (.getfield 23, 3) := by decide +kernel
theorem dX7_count_56 : decode cX7_count 56 = .ok (.iconst 3, 1) := by decide +kernel
theorem dX7_count_57 : decode cX7_count 57 = .ok (.iaload, 1) := by decide +kernel
theorem dX7_count_58 : decode cX7_count 58 = .ok (.ireturn, 1) := by decide +kernel
theorem dX7_count_59 : decode cX7_count 59 = .ok (.aload_n 0, 1) := by decide +kernel
theorem dX7_count_60 : decode cX7_count 60 = .ok (.getfield 23, 3) := by decide +kernel
theorem dX7_count_63 : decode cX7_count 63 = .ok (.bipush 44, 2) := by decide +kernel
theorem dX7_count_65 : decode cX7_count 65 = .ok (.iaload, 1) := by decide +kernel
theorem dX7_count_66 : decode cX7_count 66 = .ok (.ireturn, 1) := by decide +kernel
theorem dX7_count_67 : decode cX7_count 67 = .ok (.aload_n 0, 1) := by decide +kernel
theorem dX7_count_68 : decode cX7_count 68 = .ok (.getfield 23, 3) := by decide +kernel
theorem dX7_count_71 : decode cX7_count 71 = .ok (.bipush 45, 2) := by decide +kernel
theorem dX7_count_73 : decode cX7_count 73 = .ok (.iaload, 1) := by decide +kernel
theorem dX7_count_74 : decode cX7_count 74 = .ok (.ireturn, 1) := by decide +kernel
theorem dX7_count_75 : decode cX7_count 75 = .ok (.aload_n 0, 1) := by decide +kernel
theorem dX7_count_76 : decode cX7_count 76 = .ok (.getfield 23, 3) := by decide +kernel
theorem dX7_count_79 : decode cX7_count 79 = .ok (.iconst 0, 1) := by decide +kernel
theorem dX7_count_80 : decode cX7_count 80 = .ok (.iaload, 1) := by decide +kernel
theorem dX7_count_81 : decode cX7_count 81 = .ok (.ireturn, 1) := by decide +kernel
theorem dX7_count_82 : decode cX7_count 82 = .ok (.aload_n 0, 1) := by decide +kernel
theorem dX7_count_83 : decode cX7_count 83 = .ok (.getfield 23, 3) := by decide +kernel
theorem dX7_count_86 : decode cX7_count 86 = .ok (.iconst 2, 1) := by decide +kernel
theorem dX7_count_87 : decode cX7_count 87 = .ok (.iaload, 1) := by decide +kernel
theorem dX7_count_88 : decode cX7_count 88 = .ok (.ireturn, 1) := by decide +kernel
theorem dX7_count_89 : decode cX7_count 89 = .ok (.aload_n 0, 1) := by decide +kernel
theorem dX7_count_90 : decode cX7_count 90 = .ok (.getfield 23, 3) := by decide +kernel
theorem dX7_count_93 : decode cX7_count 93 = .ok (.invokestatic 112, 3) := by decide +kernel
theorem dX7_count_96 : decode cX7_count 96 = .ok (.ireturn, 1) := by decide +kernel
theorem dX7_count_97 : decode cX7_count 97 = .ok (.aload_n 0, 1) := by decide +kernel
theorem dX7_count_98 : decode cX7_count 98 = .ok (.getfield 23, 3) := by decide +kernel
theorem dX7_count_101 : decode cX7_count 101 = .ok (.bipush 14, 2) := by decide +kernel
theorem dX7_count_103 : decode cX7_count 103 = .ok (.invokestatic 109, 3) := by decide +kernel
theorem dX7_count_106 : decode cX7_count 106 = .ok (.ireturn, 1) := by decide +kernel
theorem dX7_count_107 : decode cX7_count 107 = .ok (.aload_n 0, 1) := by decide +kernel
theorem dX7_count_108 : decode cX7_count 108 = .ok (.getfield 23, 3) := by decide +kernel
theorem dX7_count_111 : decode cX7_count 111 = .ok (.invokestatic 112, 3) := by decide +kernel
theorem dX7_count_114 : decode cX7_count 114 = .ok (.aload_n 0, 1) := by decide +kernel
theorem dX7_count_115 : decode cX7_count 115 = .ok (.getfield 23, 3) := by decide +kernel
theorem dX7_count_118 : decode cX7_count 118 = .ok (.bipush 44, 2) := by decide +kernel
theorem dX7_count_120 : decode cX7_count 120 = .ok (.iaload, 1) := by decide +kernel
theorem dX7_count_121 : decode cX7_count 121 = .ok (.if_icmp .gt 7, 3) := by decide +kernel
theorem dX7_count_124 : decode cX7_count 124 = .ok (.iconst 1, 1) := by decide +kernel
theorem dX7_count_125 : decode cX7_count 125 = .ok (.goto 4, 3) := by decide +kernel
theorem dX7_count_128 : decode cX7_count 128 = .ok (.iconst 0, 1) := by decide +kernel
theorem dX7_count_129 : decode cX7_count 129 = .ok (.ireturn, 1) := by decide +kernel
theorem dX7_count_130 : decode cX7_count 130 = .ok (.aload_n 0, 1) := by decide +kernel
theorem dX7_count_131 : decode cX7_count 131 = .ok (.getfield 23, 3) := by decide +kernel
theorem dX7_count_134 : decode cX7_count 134 = .ok (.bipush 54, 2) := by decide +kernel
theorem dX7_count_136 : decode cX7_count 136 = .ok (.iaload, 1) := by decide +kernel
theorem dX7_count_137 : decode cX7_count 137 = .ok (.ireturn, 1) := by decide +kernel
theorem dX7_count_138 : decode cX7_count 138 = .ok (.iconst (-1), 1) := by decide +kernel
theorem dX7_count_139 : decode cX7_count 139 = .ok (.ireturn, 1) := by decide +kernel
set_option maxRecDepth 20000 in
theorem ggX7_note_X7_bring : GoodIn wsX7_note wsX7_bring := goodIn_r _ [5] (by decide +kernel) (by decide +kernel)
set_option maxRecDepth 20000 in
theorem gX7_note_X7_bring : GoodIn wsX7_note (va_wsS RX7 105 yX7_bring wsX7_bring) := goodIn_app (goodIn_of _ (by decide +kernel)) ggX7_note_X7_bring
theorem dX7_note_0 : decode cX7_note 0 = .ok (.aload_n 0, 1) := by decide +kernel
theorem dX7_note_1 : decode cX7_note 1 = .ok (.getfield 23, 3) := by decide +kernel
theorem dX7_note_4 : decode cX7_note 4 = .ok (.bipush 54, 2) := by decide +kernel
theorem dX7_note_6 : decode cX7_note 6 = .ok (.iaload, 1) := by decide +kernel
theorem dX7_note_7 : decode cX7_note 7 = .ok (.bipush 8, 2) := by decide +kernel
theorem dX7_note_9 : decode cX7_note 9 = .ok (.if_icmp .ne 32, 3) := by decide +kernel
theorem dX7_note_12 : decode cX7_note 12 = .ok (.aload_n 0, 1) := by decide +kernel
theorem dX7_note_13 : decode cX7_note 13 = .ok (.getfield 23, 3) := by decide +kernel
theorem dX7_note_16 : decode cX7_note 16 = .ok (.bipush 99, 2) := by decide +kernel
theorem dX7_note_18 : decode cX7_note 18 = .ok (.aload_n 0, 1) := by decide +kernel
theorem dX7_note_19 : decode cX7_note 19 = .ok (.getfield 23, 3) := by decide +kernel
theorem dX7_note_22 : decode cX7_note 22 = .ok (.bipush 55, 2) := by decide +kernel
theorem dX7_note_24 : decode cX7_note 24 = .ok (.sipush 308, 3) := by decide +kernel
theorem dX7_note_27 : decode cX7_note 27 = .ok (.invokestatic 105, 3) := by decide +kernel
theorem dX7_note_30 : decode cX7_note 30 = .ok (.aload_n 0, 1) := by decide +kernel
theorem dX7_note_31 : decode cX7_note 31 = .ok (.getfield 23, 3) := by decide +kernel
theorem dX7_note_34 : decode cX7_note 34 = .ok (.bipush 54, 2) := by decide +kernel
theorem dX7_note_36 : decode cX7_note 36 = .ok (.dup2, 1) := by decide +kernel
theorem dX7_note_37 : decode cX7_note 37 = .ok (.iaload, 1) := by decide +kernel
theorem dX7_note_38 : decode cX7_note 38 = .ok (.iconst 1, 1) := by decide +kernel
theorem dX7_note_39 : decode cX7_note 39 = .ok (.isub, 1) := by decide +kernel
theorem dX7_note_40 : decode cX7_note 40 = .ok (.iastore, 1) := by decide +kernel
theorem dX7_note_41 : decode cX7_note 41 = .ok (.aload_n 0, 1) := by decide +kernel
theorem dX7_note_42 : decode cX7_note 42 = .ok (.getfield 23, 3) := by decide +kernel
theorem dX7_note_45 : decode cX7_note 45 = .ok (.iconst 0, 1) := by decide +kernel
theorem dX7_note_46 : decode cX7_note 46 = .ok (.aload_n 0, 1) := by decide +kernel
theorem dX7_note_47 : decode cX7_note 47 = .ok (.getfield 23, 3) := by decide +kernel
theorem dX7_note_50 : decode cX7_note 50 = .ok (.bipush 55, 2) := by decide +kernel
theorem dX7_note_52 : decode cX7_note 52 = .ok (.bipush 44, 2) := by decide +kernel
theorem dX7_note_54 : decode cX7_note 54 = .ok (.aload_n 0, 1) := by decide +kernel
theorem dX7_note_55 : decode cX7_note 55 = .ok (.getfield 23, 3) := by decide +kernel
theorem dX7_note_58 : decode cX7_note 58 = .ok (.bipush 54, 2) := by decide +kernel
theorem dX7_note_60 : decode cX7_note 60 = .ok (.iaload, 1) := by decide +kernel
theorem dX7_note_61 : decode cX7_note 61 = .ok (.imul, 1) := by decide +kernel
theorem dX7_note_62 : decode cX7_note 62 = .ok (.iadd, 1) := by decide +kernel
theorem dX7_note_63 : decode cX7_note 63 = .ok (.bipush 44, 2) := by decide +kernel
theorem dX7_note_65 : decode cX7_note 65 = .ok (.invokestatic 105, 3) := by decide +kernel
theorem dX7_note_68 : decode cX7_note 68 = .ok (.aload_n 0, 1) := by decide +kernel
theorem dX7_note_69 : decode cX7_note 69 = .ok (.getfield 23, 3) := by decide +kernel
theorem dX7_note_72 : decode cX7_note 72 = .ok (.bipush 54, 2) := by decide +kernel
theorem dX7_note_74 : decode cX7_note 74 = .ok (.dup2, 1) := by decide +kernel
theorem dX7_note_75 : decode cX7_note 75 = .ok (.iaload, 1) := by decide +kernel
theorem dX7_note_76 : decode cX7_note 76 = .ok (.iconst 1, 1) := by decide +kernel
theorem dX7_note_77 : decode cX7_note 77 = .ok (.iadd, 1) := by decide +kernel
theorem dX7_note_78 : decode cX7_note 78 = .ok (.iastore, 1) := by decide +kernel
theorem dX7_note_79 : decode cX7_note 79 = .ok (.return_, 1) := by decide +kernel
set_option maxRecDepth 20000 in
theorem ggX7_pours_X7_capOf : GoodIn wsX7_pours wsX7_capOf := goodIn_r _ [5] (by decide +kernel) (by decide +kernel)
set_option maxRecDepth 20000 in
theorem gX7_pours_X7_capOf : GoodIn wsX7_pours (va_wsS RX7 52 yX7_capOf wsX7_capOf) := goodIn_app (goodIn_of _ (by decide +kernel)) ggX7_pours_X7_capOf
theorem dX7_pours_0 : decode cX7_pours 0 = .ok (.iload_n 2, 1) := by decide +kernel
theorem dX7_pours_1 : decode cX7_pours 1 = .ok (.istore_n 3, 1) := by decide +kernel
theorem dX7_pours_2 : decode cX7_pours 2 = .ok (.aload_n 1, 1) := by decide +kernel
theorem dX7_pours_3 : decode cX7_pours 3 = .ok (.iconst 3, 1) := by decide +kernel
theorem dX7_pours_4 : decode cX7_pours 4 = .ok (.iaload, 1) := by decide +kernel
theorem dX7_pours_5 : decode cX7_pours 5 = .ok (.iconst 1, 1) := by decide +kernel
theorem dX7_pours_6 : decode cX7_pours 6 = .ok (.isub, 1) := by decide +kernel
theorem dX7_pours_7 : decode cX7_pours 7 = .ok (.istore 4, 2) := by decide +kernel
theorem dX7_pours_9 : decode cX7_pours 9 = .ok (.iload 4, 2) := by decide +kernel
theorem dX7_pours_11 : decode cX7_pours 11 = .ok (.ifCond .lt 46, 3) := by decide +kernel
theorem dX7_pours_14 : decode cX7_pours 14 = .ok (.aload_n 1, 1) := by decide +kernel
theorem dX7_pours_15 : decode cX7_pours 15 = .ok (.iload 4, 2) := by decide +kernel
theorem dX7_pours_17 : decode cX7_pours 17 = .ok (.invokestatic 52, 3) := by decide +kernel
theorem dX7_pours_20 : decode cX7_pours 20 = .ok (.istore 5, 2) := by decide +kernel
theorem dX7_pours_22 : decode cX7_pours 22 = .ok (.aload_n 0, 1) := by decide +kernel
theorem dX7_pours_23 : decode cX7_pours 23 = .ok (.getfield 35, 3) := by decide +kernel
theorem dX7_pours_26 : decode cX7_pours 26 = .ok (.iload 4, 2) := by decide +kernel
theorem dX7_pours_28 : decode cX7_pours 28 = .ok (.iload_n 3, 1) := by decide +kernel
theorem dX7_pours_29 : decode cX7_pours 29 = .ok (.iload 5, 2) := by decide +kernel
theorem dX7_pours_31 : decode cX7_pours 31 = .ok (.if_icmp .ge 7, 3) := by decide +kernel
theorem dX7_pours_34 : decode cX7_pours 34 = .ok (.iload_n 3, 1) := by decide +kernel
theorem dX7_pours_35 : decode cX7_pours 35 = .ok (.goto 5, 3) := by decide +kernel
theorem dX7_pours_38 : decode cX7_pours 38 = .ok (.iload 5, 2) := by decide +kernel
theorem dX7_pours_40 : decode cX7_pours 40 = .ok (.iastore, 1) := by decide +kernel
theorem dX7_pours_41 : decode cX7_pours 41 = .ok (.iload_n 3, 1) := by decide +kernel
theorem dX7_pours_42 : decode cX7_pours 42 = .ok (.aload_n 0, 1) := by decide +kernel
theorem dX7_pours_43 : decode cX7_pours 43 = .ok (.getfield 35, 3) := by decide +kernel
theorem dX7_pours_46 : decode cX7_pours 46 = .ok (.iload 4, 2) := by decide +kernel
theorem dX7_pours_48 : decode cX7_pours 48 = .ok (.iaload, 1) := by decide +kernel
theorem dX7_pours_49 : decode cX7_pours 49 = .ok (.isub, 1) := by decide +kernel
theorem dX7_pours_50 : decode cX7_pours 50 = .ok (.istore_n 3, 1) := by decide +kernel
theorem dX7_pours_51 : decode cX7_pours 51 = .ok (.iinc 4 (-1), 3) := by decide +kernel
theorem dX7_pours_54 : decode cX7_pours 54 = .ok (.goto (-45), 3) := by decide +kernel
theorem dX7_pours_57 : decode cX7_pours 57 = .ok (.iload_n 3, 1) := by decide +kernel
theorem dX7_pours_58 : decode cX7_pours 58 = .ok (.ireturn, 1) := by decide +kernel
set_option maxRecDepth 20000 in
theorem ggX7_yearBy_X7_pours : GoodIn wsX7_yearBy wsX7_pours := goodIn_r _ [6, 1, 7, 8, 5, 9, 10, 11, 12, 13, 14, 15, 16, 17, 18, 19, 20, 21, 22, 23, 24] (by decide +kernel) (by decide +kernel)
set_option maxRecDepth 20000 in
theorem gX7_yearBy_X7_pours : GoodIn wsX7_yearBy (wsV RX7 116 RX7 yX7_pours wsX7_pours) := goodIn_app (goodIn_of _ (by decide +kernel)) ggX7_yearBy_X7_pours
theorem dX7_yearBy_0 : decode cX7_yearBy 0 = .ok (.aload_n 0, 1) := by decide +kernel
theorem dX7_yearBy_1 : decode cX7_yearBy 1 = .ok (.aload_n 1, 1) := by decide +kernel
theorem dX7_yearBy_2 : decode cX7_yearBy 2 = .ok (.iload_n 2, 1) := by decide +kernel
theorem dX7_yearBy_3 : decode cX7_yearBy 3 = .ok (.invokevirtual 116, 3) := by decide +kernel
theorem dX7_yearBy_6 : decode cX7_yearBy 6 = .ok (.istore_n 3, 1) := by decide +kernel
theorem dX7_yearBy_7 : decode cX7_yearBy 7 = .ok (.iconst 0, 1) := by decide +kernel
theorem dX7_yearBy_8 : decode cX7_yearBy 8 = .ok (.istore 4, 2) := by decide +kernel
theorem dX7_yearBy_10 : decode cX7_yearBy 10 = .ok (.iload 4, 2) := by decide +kernel
theorem dX7_yearBy_12 : decode cX7_yearBy 12 = .ok (.aload_n 1, 1) := by decide +kernel
theorem dX7_yearBy_13 : decode cX7_yearBy 13 = .ok (.iconst 3, 1) := by decide +kernel
theorem dX7_yearBy_14 : decode cX7_yearBy 14 = .ok (.iaload, 1) := by decide +kernel
theorem dX7_yearBy_15 : decode cX7_yearBy 15 = .ok (.if_icmp .ge 73, 3) := by decide +kernel
theorem dX7_yearBy_18 : decode cX7_yearBy 18 = .ok (.aload_n 1, 1) := by decide +kernel
theorem dX7_yearBy_19 : decode cX7_yearBy 19 = .ok (.bipush 24, 2) := by decide +kernel
theorem dX7_yearBy_21 : decode cX7_yearBy 21 = .ok (.iload 4, 2) := by decide +kernel
theorem dX7_yearBy_23 : decode cX7_yearBy 23 = .ok (.iadd, 1) := by decide +kernel
theorem dX7_yearBy_24 : decode cX7_yearBy 24 = .ok (.iaload, 1) := by decide +kernel
theorem dX7_yearBy_25 : decode cX7_yearBy 25 = .ok (.aload_n 0, 1) := by decide +kernel
theorem dX7_yearBy_26 : decode cX7_yearBy 26 = .ok (.getfield 35, 3) := by decide +kernel
theorem dX7_yearBy_29 : decode cX7_yearBy 29 = .ok (.iload 4, 2) := by decide +kernel
theorem dX7_yearBy_31 : decode cX7_yearBy 31 = .ok (.iaload, 1) := by decide +kernel
theorem dX7_yearBy_32 : decode cX7_yearBy 32 = .ok (.ifCond .ne 8, 3) := by decide +kernel
theorem dX7_yearBy_35 : decode cX7_yearBy 35 = .ok (.bipush (-2), 2) := by decide +kernel
theorem dX7_yearBy_37 : decode cX7_yearBy 37 = .ok (.goto 12, 3) := by decide +kernel
theorem dX7_yearBy_40 : decode cX7_yearBy 40 = .ok (.aload_n 0, 1) := by decide +kernel
theorem dX7_yearBy_41 : decode cX7_yearBy 41 = .ok (.getfield 35, 3) := by decide +kernel
theorem dX7_yearBy_44 : decode cX7_yearBy 44 = .ok (.iload 4, 2) := by decide +kernel
theorem dX7_yearBy_46 : decode cX7_yearBy 46 = .ok (.iaload, 1) := by decide +kernel
theorem dX7_yearBy_47 : decode cX7_yearBy 47 = .ok (.iconst 2, 1) := by decide +kernel
theorem dX7_yearBy_48 : decode cX7_yearBy 48 = .ok (.idiv, 1) := by decide +kernel
theorem dX7_yearBy_49 : decode cX7_yearBy 49 = .ok (.iadd, 1) := by decide +kernel
theorem dX7_yearBy_50 : decode cX7_yearBy 50 = .ok (.istore 5, 2) := by decide +kernel
theorem dX7_yearBy_52 : decode cX7_yearBy 52 = .ok (.aload_n 1, 1) := by decide +kernel
theorem dX7_yearBy_53 : decode cX7_yearBy 53 = .ok (.bipush 24, 2) := by decide +kernel
theorem dX7_yearBy_55 : decode cX7_yearBy 55 = .ok (.iload 4, 2) := by decide +kernel
theorem dX7_yearBy_57 : decode cX7_yearBy 57 = .ok (.iadd, 1) := by decide +kernel
theorem dX7_yearBy_58 : decode cX7_yearBy 58 = .ok (.iload 5, 2) := by decide +kernel
theorem dX7_yearBy_60 : decode cX7_yearBy 60 = .ok (.ifCond .ge 7, 3) := by decide +kernel
theorem dX7_yearBy_63 : decode cX7_yearBy 63 = .ok (.iconst 0, 1) := by decide +kernel
theorem dX7_yearBy_64 : decode cX7_yearBy 64 = .ok (.goto 17, 3) := by decide +kernel
theorem dX7_yearBy_67 : decode cX7_yearBy 67 = .ok (.iload 5, 2) := by decide +kernel
theorem dX7_yearBy_69 : decode cX7_yearBy 69 = .ok (.bipush 9, 2) := by decide +kernel
theorem dX7_yearBy_71 : decode cX7_yearBy 71 = .ok (.if_icmp .le 8, 3) := by decide +kernel
theorem dX7_yearBy_74 : decode cX7_yearBy 74 = .ok (.bipush 9, 2) := by decide +kernel
theorem dX7_yearBy_76 : decode cX7_yearBy 76 = .ok (.goto 5, 3) := by decide +kernel
theorem dX7_yearBy_79 : decode cX7_yearBy 79 = .ok (.iload 5, 2) := by decide +kernel
theorem dX7_yearBy_81 : decode cX7_yearBy 81 = .ok (.iastore, 1) := by decide +kernel
theorem dX7_yearBy_82 : decode cX7_yearBy 82 = .ok (.iinc 4 1, 3) := by decide +kernel
theorem dX7_yearBy_85 : decode cX7_yearBy 85 = .ok (.goto (-75), 3) := by decide +kernel
theorem dX7_yearBy_88 : decode cX7_yearBy 88 = .ok (.aload_n 1, 1) := by decide +kernel
theorem dX7_yearBy_89 : decode cX7_yearBy 89 = .ok (.iconst 3, 1) := by decide +kernel
theorem dX7_yearBy_90 : decode cX7_yearBy 90 = .ok (.iaload, 1) := by decide +kernel
theorem dX7_yearBy_91 : decode cX7_yearBy 91 = .ok (.ifCond .le 42, 3) := by decide +kernel
theorem dX7_yearBy_94 : decode cX7_yearBy 94 = .ok (.aload_n 1, 1) := by decide +kernel
theorem dX7_yearBy_95 : decode cX7_yearBy 95 = .ok (.iconst 3, 1) := by decide +kernel
theorem dX7_yearBy_96 : decode cX7_yearBy 96 = .ok (.iaload, 1) := by decide +kernel
theorem dX7_yearBy_97 : decode cX7_yearBy 97 = .ok (.iconst 1, 1) := by decide +kernel
theorem dX7_yearBy_98 : decode cX7_yearBy 98 = .ok (.isub, 1) := by decide +kernel
theorem dX7_yearBy_99 : decode cX7_yearBy 99 = .ok (.istore 4, 2) := by decide +kernel
theorem dX7_yearBy_101 : decode cX7_yearBy 101 = .ok (.aload_n 1, 1) := by decide +kernel
theorem dX7_yearBy_102 : decode cX7_yearBy 102 = .ok (.bipush 14, 2) := by decide +kernel
theorem dX7_yearBy_104 : decode cX7_yearBy 104 = .ok (.iload 4, 2) := by decide +kernel
theorem dX7_yearBy_106 : decode cX7_yearBy 106 = .ok (.iadd, 1) := by decide +kernel
theorem dX7_yearBy_107 : decode cX7_yearBy 107 = .ok (.dup2, 1) := by decide +kernel
theorem dX7_yearBy_108 : decode cX7_yearBy 108 = .ok (.iaload, 1) := by decide +kernel
theorem dX7_yearBy_109 : decode cX7_yearBy 109 = .ok (.iconst 1, 1) := by decide +kernel
theorem dX7_yearBy_110 : decode cX7_yearBy 110 = .ok (.isub, 1) := by decide +kernel
theorem dX7_yearBy_111 : decode cX7_yearBy 111 = .ok (.iastore, 1) := by decide +kernel
theorem dX7_yearBy_112 : decode cX7_yearBy 112 = .ok (.aload_n 1, 1) := by decide +kernel
theorem dX7_yearBy_113 : decode cX7_yearBy 113 = .ok (.iconst 3, 1) := by decide +kernel
theorem dX7_yearBy_114 : decode cX7_yearBy 114 = .ok (.dup2, 1) := by decide +kernel
theorem dX7_yearBy_115 : decode cX7_yearBy 115 = .ok (.iaload, 1) := by decide +kernel
theorem dX7_yearBy_116 : decode cX7_yearBy 116 = .ok (.aload_n 1, 1) := by decide +kernel
theorem dX7_yearBy_117 : decode cX7_yearBy 117 = .ok (.bipush 14, 2) := by decide +kernel
theorem dX7_yearBy_119 : decode cX7_yearBy 119 = .ok (.iload 4, 2) := by decide +kernel
theorem dX7_yearBy_121 : decode cX7_yearBy 121 = .ok (.iadd, 1) := by decide +kernel
theorem dX7_yearBy_122 : decode cX7_yearBy 122 = .ok (.iaload, 1) := by decide +kernel
theorem dX7_yearBy_123 : decode cX7_yearBy 123 = .ok (.ifCond .ne 7, 3) := by decide +kernel
theorem dX7_yearBy_126 : decode cX7_yearBy 126 = .ok (.iconst 1, 1) := by decide +kernel
theorem dX7_yearBy_127 : decode cX7_yearBy 127 = .ok (.goto 4, 3) := by decide +kernel
theorem dX7_yearBy_130 : decode cX7_yearBy 130 = .ok (.iconst 0, 1) := by decide +kernel
theorem dX7_yearBy_131 : decode cX7_yearBy 131 = .ok (.isub, 1) := by decide +kernel
theorem dX7_yearBy_132 : decode cX7_yearBy 132 = .ok (.iastore, 1) := by decide +kernel
theorem dX7_yearBy_133 : decode cX7_yearBy 133 = .ok (.aload_n 1, 1) := by decide +kernel
theorem dX7_yearBy_134 : decode cX7_yearBy 134 = .ok (.iconst 2, 1) := by decide +kernel
theorem dX7_yearBy_135 : decode cX7_yearBy 135 = .ok (.dup2, 1) := by decide +kernel
theorem dX7_yearBy_136 : decode cX7_yearBy 136 = .ok (.iaload, 1) := by decide +kernel
theorem dX7_yearBy_137 : decode cX7_yearBy 137 = .ok (.iload_n 3, 1) := by decide +kernel
theorem dX7_yearBy_138 : decode cX7_yearBy 138 = .ok (.iadd, 1) := by decide +kernel
theorem dX7_yearBy_139 : decode cX7_yearBy 139 = .ok (.iastore, 1) := by decide +kernel
theorem dX7_yearBy_140 : decode cX7_yearBy 140 = .ok (.aload_n 1, 1) := by decide +kernel
theorem dX7_yearBy_141 : decode cX7_yearBy 141 = .ok (.iconst 0, 1) := by decide +kernel
theorem dX7_yearBy_142 : decode cX7_yearBy 142 = .ok (.dup2, 1) := by decide +kernel
theorem dX7_yearBy_143 : decode cX7_yearBy 143 = .ok (.iaload, 1) := by decide +kernel
theorem dX7_yearBy_144 : decode cX7_yearBy 144 = .ok (.iconst 1, 1) := by decide +kernel
theorem dX7_yearBy_145 : decode cX7_yearBy 145 = .ok (.iadd, 1) := by decide +kernel
theorem dX7_yearBy_146 : decode cX7_yearBy 146 = .ok (.iastore, 1) := by decide +kernel
theorem dX7_yearBy_147 : decode cX7_yearBy 147 = .ok (.iload_n 3, 1) := by decide +kernel
theorem dX7_yearBy_148 : decode cX7_yearBy 148 = .ok (.ireturn, 1) := by decide +kernel
set_option maxRecDepth 20000 in
theorem ggX7_yearIn_X7_rainIn : GoodIn wsX7_yearIn wsX7_rainIn := goodIn_r _ [4] (by decide +kernel) (by decide +kernel)
set_option maxRecDepth 20000 in
theorem gX7_yearIn_X7_rainIn : GoodIn wsX7_yearIn (va_wsS RX7 64 yX7_rainIn wsX7_rainIn) := goodIn_app (goodIn_of _ (by decide +kernel)) ggX7_yearIn_X7_rainIn
set_option maxRecDepth 20000 in
theorem ggX7_yearIn_X7_yearBy : GoodIn wsX7_yearIn wsX7_yearBy := goodIn_r _ [8, 9, 10, 11, 12, 3, 13, 14, 15, 16, 17, 18, 19, 20, 21, 22, 23, 24, 25, 26, 27, 28, 29, 30, 31] (by decide +kernel) (by decide +kernel)
set_option maxRecDepth 20000 in
theorem gX7_yearIn_X7_yearBy : GoodIn wsX7_yearIn (wsV RX7 119 RX7 yX7_yearBy wsX7_yearBy) := goodIn_app (goodIn_of _ (by decide +kernel)) ggX7_yearIn_X7_yearBy
theorem dX7_yearIn_0 : decode cX7_yearIn 0 = .ok (.aload_n 0, 1) := by decide +kernel
theorem dX7_yearIn_1 : decode cX7_yearIn 1 = .ok (.aload_n 1, 1) := by decide +kernel
theorem dX7_yearIn_2 : decode cX7_yearIn 2 = .ok (.aload_n 1, 1) := by decide +kernel
theorem dX7_yearIn_3 : decode cX7_yearIn 3 = .ok (.aload_n 1, 1) := by decide +kernel
theorem dX7_yearIn_4 : decode cX7_yearIn 4 = .ok (.iconst 0, 1) := by decide +kernel
theorem dX7_yearIn_5 : decode cX7_yearIn 5 = .ok (.iaload, 1) := by decide +kernel
theorem dX7_yearIn_6 : decode cX7_yearIn 6 = .ok (.invokestatic 64, 3) := by decide +kernel
theorem dX7_yearIn_9 : decode cX7_yearIn 9 = .ok (.invokevirtual 119, 3) := by decide +kernel
theorem dX7_yearIn_12 : decode cX7_yearIn 12 = .ok (.ireturn, 1) := by decide +kernel
set_option maxRecDepth 20000 in
theorem ggX7_years_X7_in : GoodIn wsX7_years wsX7_in := goodIn_r _ [5] (by decide +kernel) (by decide +kernel)
set_option maxRecDepth 20000 in
theorem gX7_years_X7_in : GoodIn wsX7_years (va_wsS RX7 44 yX7_in wsX7_in) := goodIn_app (goodIn_of _ (by decide +kernel)) ggX7_years_X7_in
set_option maxRecDepth 20000 in
theorem ggX7_years_X7_note : GoodIn wsX7_years wsX7_note := goodIn_r _ [9, 1, 10, 11, 4, 12, 32, 33, 34, 35, 36, 37, 38, 39, 40, 41, 42, 43, 44, 45, 46] (by decide +kernel) (by decide +kernel)
set_option maxRecDepth 20000 in
theorem gX7_years_X7_note : GoodIn wsX7_years (wsV RX7 122 RX7 yX7_note wsX7_note) := goodIn_app (goodIn_of _ (by decide +kernel)) ggX7_years_X7_note
set_option maxRecDepth 20000 in
theorem ggX7_years_X7_yearIn : GoodIn wsX7_years wsX7_yearIn := goodIn_r _ [16, 17, 18, 4, 19, 20, 21, 22, 23, 24, 25, 26, 27, 28, 29, 30, 31, 32, 33, 34, 35, 36, 37, 38, 39, 40, 41, 42, 43, 44, 45, 46] (by decide +kernel) (by decide +kernel)
set_option maxRecDepth 20000 in
theorem gX7_years_X7_yearIn : GoodIn wsX7_years (wsV RX7 125 RX7 yX7_yearIn wsX7_yearIn) := goodIn_app (goodIn_of _ (by decide +kernel)) ggX7_years_X7_yearIn
theorem dX7_years_0 : decode cX7_years 0 = .ok (.iload_n 1, 1) := by decide +kernel
theorem dX7_years_1 : decode cX7_years 1 = .ok (.iconst 1, 1) := by decide +kernel
theorem dX7_years_2 : decode cX7_years 2 = .ok (.bipush 40, 2) := by decide +kernel
theorem dX7_years_4 : decode cX7_years 4 = .ok (.invokestatic 44, 3) := by decide +kernel
theorem dX7_years_7 : decode cX7_years 7 = .ok (.ifCond .ne 5, 3) := by decide +kernel
theorem dX7_years_10 : decode cX7_years 10 = .ok (.iconst (-1), 1) := by decide +kernel
theorem dX7_years_11 : decode cX7_years 11 = .ok (.ireturn, 1) := by decide +kernel
theorem dX7_years_12 : decode cX7_years 12 = .ok (.aload_n 0, 1) := by decide +kernel
theorem dX7_years_13 : decode cX7_years 13 = .ok (.getfield 23, 3) := by decide +kernel
theorem dX7_years_16 : decode cX7_years 16 = .ok (.iconst 0, 1) := by decide +kernel
theorem dX7_years_17 : decode cX7_years 17 = .ok (.iaload, 1) := by decide +kernel
theorem dX7_years_18 : decode cX7_years 18 = .ok (.iload_n 1, 1) := by decide +kernel
theorem dX7_years_19 : decode cX7_years 19 = .ok (.iadd, 1) := by decide +kernel
theorem dX7_years_20 : decode cX7_years 20 = .ok (.sipush 9999, 3) := by decide +kernel
theorem dX7_years_23 : decode cX7_years 23 = .ok (.if_icmp .le 6, 3) := by decide +kernel
theorem dX7_years_26 : decode cX7_years 26 = .ok (.bipush (-3), 2) := by decide +kernel
theorem dX7_years_28 : decode cX7_years 28 = .ok (.ireturn, 1) := by decide +kernel
theorem dX7_years_29 : decode cX7_years 29 = .ok (.iconst 0, 1) := by decide +kernel
theorem dX7_years_30 : decode cX7_years 30 = .ok (.istore_n 2, 1) := by decide +kernel
theorem dX7_years_31 : decode cX7_years 31 = .ok (.iconst 0, 1) := by decide +kernel
theorem dX7_years_32 : decode cX7_years 32 = .ok (.istore_n 3, 1) := by decide +kernel
theorem dX7_years_33 : decode cX7_years 33 = .ok (.iload_n 3, 1) := by decide +kernel
theorem dX7_years_34 : decode cX7_years 34 = .ok (.iload_n 1, 1) := by decide +kernel
theorem dX7_years_35 : decode cX7_years 35 = .ok (.if_icmp .ge 24, 3) := by decide +kernel
theorem dX7_years_38 : decode cX7_years 38 = .ok (.aload_n 0, 1) := by decide +kernel
theorem dX7_years_39 : decode cX7_years 39 = .ok (.invokevirtual 122, 3) := by decide +kernel
theorem dX7_years_42 : decode cX7_years 42 = .ok (.iload_n 2, 1) := by decide +kernel
theorem dX7_years_43 : decode cX7_years 43 = .ok (.aload_n 0, 1) := by decide +kernel
theorem dX7_years_44 : decode cX7_years 44 = .ok (.aload_n 0, 1) := by decide +kernel
theorem dX7_years_45 : decode cX7_years 45 = .ok (.getfield 23, 3) := by decide +kernel
theorem dX7_years_48 : decode cX7_years 48 = .ok (.invokevirtual 125, 3) := by decide +kernel
theorem dX7_years_51 : decode cX7_years 51 = .ok (.iadd, 1) := by decide +kernel
theorem dX7_years_52 : decode cX7_years 52 = .ok (.istore_n 2, 1) := by decide +kernel
theorem dX7_years_53 : decode cX7_years 53 = .ok (.iinc 3 1, 3) := by decide +kernel
theorem dX7_years_56 : decode cX7_years 56 = .ok (.goto (-23), 3) := by decide +kernel
theorem dX7_years_59 : decode cX7_years 59 = .ok (.iload_n 2, 1) := by decide +kernel
theorem dX7_years_60 : decode cX7_years 60 = .ok (.ireturn, 1) := by decide +kernel
set_option maxRecDepth 20000 in
theorem ggX7_lay_X7_in : GoodIn wsX7_lay wsX7_in := goodIn_r _ [5] (by decide +kernel) (by decide +kernel)
set_option maxRecDepth 20000 in
theorem gX7_lay_X7_in : GoodIn wsX7_lay (va_wsS RX7 44 yX7_in wsX7_in) := goodIn_app (goodIn_of _ (by decide +kernel)) ggX7_lay_X7_in
set_option maxRecDepth 20000 in
theorem ggX7_lay_X7_heavy : GoodIn wsX7_lay wsX7_heavy := goodIn_r _ [8, 9, 10, 4, 11] (by decide +kernel) (by decide +kernel)
set_option maxRecDepth 20000 in
theorem gX7_lay_X7_heavy : GoodIn wsX7_lay (va_wsS RX7 112 yX7_heavy wsX7_heavy) := goodIn_app (goodIn_of _ (by decide +kernel)) ggX7_lay_X7_heavy
set_option maxRecDepth 20000 in
theorem ggX7_lay_X7_note : GoodIn wsX7_lay wsX7_note := goodIn_r _ [15, 1, 16, 17, 4, 18, 22, 23, 24, 25, 26, 27, 28, 29, 30, 31, 32, 33, 34, 35, 36] (by decide +kernel) (by decide +kernel)
set_option maxRecDepth 20000 in
theorem gX7_lay_X7_note : GoodIn wsX7_lay (wsV RX7 122 RX7 yX7_note wsX7_note) := goodIn_app (goodIn_of _ (by decide +kernel)) ggX7_lay_X7_note
set_option maxRecDepth 20000 in
theorem ggX7_lay_X7_addCoat : GoodIn wsX7_lay wsX7_addCoat := goodIn_r _ [21] (by decide +kernel) (by decide +kernel)
set_option maxRecDepth 20000 in
theorem gX7_lay_X7_addCoat : GoodIn wsX7_lay (va_wsS RX7 91 yX7_addCoat wsX7_addCoat) := goodIn_app (goodIn_of _ (by decide +kernel)) ggX7_lay_X7_addCoat
theorem dX7_lay_0 : decode cX7_lay 0 = .ok (.iload_n 1, 1) := by decide +kernel
theorem dX7_lay_1 : decode cX7_lay 1 = .ok (.iconst 0, 1) := by decide +kernel
theorem dX7_lay_2 : decode cX7_lay 2 = .ok (.iconst 4, 1) := by decide +kernel
theorem dX7_lay_3 : decode cX7_lay 3 = .ok (.invokestatic 44, 3) := by decide +kernel
theorem dX7_lay_6 : decode cX7_lay 6 = .ok (.ifCond .eq 13, 3) := by decide +kernel
theorem dX7_lay_9 : decode cX7_lay 9 = .ok (.iload_n 2, 1) := by decide +kernel
theorem dX7_lay_10 : decode cX7_lay 10 = .ok (.iconst 1, 1) := by decide +kernel
theorem dX7_lay_11 : decode cX7_lay 11 = .ok (.bipush 20, 2) := by decide +kernel
theorem dX7_lay_13 : decode cX7_lay 13 = .ok (.invokestatic 44, 3) := by decide +kernel
theorem dX7_lay_16 : decode cX7_lay 16 = .ok (.ifCond .ne 5, 3) := by decide +kernel
theorem dX7_lay_19 : decode cX7_lay 19 = .ok (.iconst (-1), 1) := by decide +kernel
theorem dX7_lay_20 : decode cX7_lay 20 = .ok (.ireturn, 1) := by decide +kernel
theorem dX7_lay_21 : decode cX7_lay 21 = .ok (.aload_n 0, 1) := by decide +kernel
theorem dX7_lay_22 : decode cX7_lay 22 = .ok (.getfield 23, 3) := by decide +kernel
theorem dX7_lay_25 : decode cX7_lay 25 = .ok (.iconst 3, 1) := by decide +kernel
theorem dX7_lay_26 : decode cX7_lay 26 = .ok (.iaload, 1) := by decide +kernel
theorem dX7_lay_27 : decode cX7_lay 27 = .ok (.bipush 10, 2) := by decide +kernel
theorem dX7_lay_29 : decode cX7_lay 29 = .ok (.if_icmp .ne 6, 3) := by decide +kernel
theorem dX7_lay_32 : decode cX7_lay 32 = .ok (.bipush (-3), 2) := by decide +kernel
theorem dX7_lay_34 : decode cX7_lay 34 = .ok (.ireturn, 1) := by decide +kernel
theorem dX7_lay_35 : decode cX7_lay 35 = .ok (.aload_n 0, 1) := by decide +kernel
theorem dX7_lay_36 : decode cX7_lay 36 = .ok (.getfield 23, 3) := by decide +kernel
theorem dX7_lay_39 : decode cX7_lay 39 = .ok (.invokestatic 112, 3) := by decide +kernel
theorem dX7_lay_42 : decode cX7_lay 42 = .ok (.iload_n 2, 1) := by decide +kernel
theorem dX7_lay_43 : decode cX7_lay 43 = .ok (.iadd, 1) := by decide +kernel
theorem dX7_lay_44 : decode cX7_lay 44 = .ok (.aload_n 0, 1) := by decide +kernel
theorem dX7_lay_45 : decode cX7_lay 45 = .ok (.getfield 23, 3) := by decide +kernel
theorem dX7_lay_48 : decode cX7_lay 48 = .ok (.bipush 44, 2) := by decide +kernel
theorem dX7_lay_50 : decode cX7_lay 50 = .ok (.iaload, 1) := by decide +kernel
theorem dX7_lay_51 : decode cX7_lay 51 = .ok (.if_icmp .le 6, 3) := by decide +kernel
theorem dX7_lay_54 : decode cX7_lay 54 = .ok (.bipush (-2), 2) := by decide +kernel
theorem dX7_lay_56 : decode cX7_lay 56 = .ok (.ireturn, 1) := by decide +kernel
theorem dX7_lay_57 : decode cX7_lay 57 = .ok (.aload_n 0, 1) := by decide +kernel
theorem dX7_lay_58 : decode cX7_lay 58 = .ok (.invokevirtual 122, 3) := by decide +kernel
theorem dX7_lay_61 : decode cX7_lay 61 = .ok (.aload_n 0, 1) := by decide +kernel
theorem dX7_lay_62 : decode cX7_lay 62 = .ok (.getfield 23, 3) := by decide +kernel
theorem dX7_lay_65 : decode cX7_lay 65 = .ok (.iload_n 1, 1) := by decide +kernel
theorem dX7_lay_66 : decode cX7_lay 66 = .ok (.iload_n 2, 1) := by decide +kernel
theorem dX7_lay_67 : decode cX7_lay 67 = .ok (.iconst 0, 1) := by decide +kernel
theorem dX7_lay_68 : decode cX7_lay 68 = .ok (.invokestatic 91, 3) := by decide +kernel
theorem dX7_lay_71 : decode cX7_lay 71 = .ok (.ireturn, 1) := by decide +kernel
set_option maxRecDepth 20000 in
theorem ggX7_strip_X7_in : GoodIn wsX7_strip wsX7_in := goodIn_r _ [5] (by decide +kernel) (by decide +kernel)
set_option maxRecDepth 20000 in
theorem gX7_strip_X7_in : GoodIn wsX7_strip (va_wsS RX7 44 yX7_in wsX7_in) := goodIn_app (goodIn_of _ (by decide +kernel)) ggX7_strip_X7_in
set_option maxRecDepth 20000 in
theorem ggX7_strip_X7_note : GoodIn wsX7_strip wsX7_note := goodIn_r _ [9, 1, 10, 11, 4, 12, 13, 14, 15, 16, 17, 18, 19, 20, 21, 22, 23, 24, 25, 26, 27] (by decide +kernel) (by decide +kernel)
set_option maxRecDepth 20000 in
theorem gX7_strip_X7_note : GoodIn wsX7_strip (wsV RX7 122 RX7 yX7_note wsX7_note) := goodIn_app (goodIn_of _ (by decide +kernel)) ggX7_strip_X7_note
theorem dX7_strip_0 : decode cX7_strip 0 = .ok (.iload_n 1, 1) := by decide +kernel
theorem dX7_strip_1 : decode cX7_strip 1 = .ok (.iconst 1, 1) := by decide +kernel
theorem dX7_strip_2 : decode cX7_strip 2 = .ok (.bipush 10, 2) := by decide +kernel
theorem dX7_strip_4 : decode cX7_strip 4 = .ok (.invokestatic 44, 3) := by decide +kernel
theorem dX7_strip_7 : decode cX7_strip 7 = .ok (.ifCond .ne 5, 3) := by decide +kernel
theorem dX7_strip_10 : decode cX7_strip 10 = .ok (.iconst (-1), 1) := by decide +kernel
theorem dX7_strip_11 : decode cX7_strip 11 = .ok (.ireturn, 1) := by decide +kernel
theorem dX7_strip_12 : decode cX7_strip 12 = .ok (.aload_n 0, 1) := by decide +kernel
theorem dX7_strip_13 : decode cX7_strip 13 = .ok (.getfield 23, 3) := by decide +kernel
theorem dX7_strip_16 : decode cX7_strip 16 = .ok (.iconst 3, 1) := by decide +kernel
theorem dX7_strip_17 : decode cX7_strip 17 = .ok (.iaload, 1) := by decide +kernel
theorem dX7_strip_18 : decode cX7_strip 18 = .ok (.iload_n 1, 1) := by decide +kernel
theorem dX7_strip_19 : decode cX7_strip 19 = .ok (.if_icmp .ge 6, 3) := by decide +kernel
theorem dX7_strip_22 : decode cX7_strip 22 = .ok (.bipush (-2), 2) := by decide +kernel
theorem dX7_strip_24 : decode cX7_strip 24 = .ok (.ireturn, 1) := by decide +kernel
theorem dX7_strip_25 : decode cX7_strip 25 = .ok (.aload_n 0, 1) := by decide +kernel
theorem dX7_strip_26 : decode cX7_strip 26 = .ok (.invokevirtual 122, 3) := by decide +kernel
theorem dX7_strip_29 : decode cX7_strip 29 = .ok (.aload_n 0, 1) := by decide +kernel
theorem dX7_strip_30 : decode cX7_strip 30 = .ok (.getfield 23, 3) := by decide +kernel
theorem dX7_strip_33 : decode cX7_strip 33 = .ok (.iconst 3, 1) := by decide +kernel
theorem dX7_strip_34 : decode cX7_strip 34 = .ok (.dup2, 1) := by decide +kernel
theorem dX7_strip_35 : decode cX7_strip 35 = .ok (.iaload, 1) := by decide +kernel
theorem dX7_strip_36 : decode cX7_strip 36 = .ok (.iload_n 1, 1) := by decide +kernel
theorem dX7_strip_37 : decode cX7_strip 37 = .ok (.isub, 1) := by decide +kernel
theorem dX7_strip_38 : decode cX7_strip 38 = .ok (.iastore, 1) := by decide +kernel
theorem dX7_strip_39 : decode cX7_strip 39 = .ok (.aload_n 0, 1) := by decide +kernel
theorem dX7_strip_40 : decode cX7_strip 40 = .ok (.getfield 23, 3) := by decide +kernel
theorem dX7_strip_43 : decode cX7_strip 43 = .ok (.iconst 3, 1) := by decide +kernel
theorem dX7_strip_44 : decode cX7_strip 44 = .ok (.iaload, 1) := by decide +kernel
theorem dX7_strip_45 : decode cX7_strip 45 = .ok (.ireturn, 1) := by decide +kernel
theorem dX7_pulls_0 : decode cX7_pulls 0 = .ok (.aload_n 0, 1) := by decide +kernel
theorem dX7_pulls_1 : decode cX7_pulls 1 = .ok (.bipush 14, 2) := by decide +kernel
theorem dX7_pulls_3 : decode cX7_pulls 3 = .ok (.iload_n 1, 1) := by decide +kernel
theorem dX7_pulls_4 : decode cX7_pulls 4 = .ok (.iadd, 1) := by decide +kernel
theorem dX7_pulls_5 : decode cX7_pulls 5 = .ok (.aload_n 0, 1) := by decide +kernel
theorem dX7_pulls_6 : decode cX7_pulls 6 = .ok (.bipush 14, 2) := by decide +kernel
theorem dX7_pulls_8 : decode cX7_pulls 8 = .ok (.iload_n 1, 1) := by decide +kernel
theorem dX7_pulls_9 : decode cX7_pulls 9 = .ok (.iadd, 1) := by decide +kernel
theorem dX7_pulls_10 : decode cX7_pulls 10 = .ok (.iaload, 1) := by decide +kernel
theorem dX7_pulls_11 : decode cX7_pulls 11 = .ok (.iload_n 2, 1) := by decide +kernel
theorem dX7_pulls_12 : decode cX7_pulls 12 = .ok (.isub, 1) := by decide +kernel
theorem dX7_pulls_13 : decode cX7_pulls 13 = .ok (.iconst 1, 1) := by decide +kernel
theorem dX7_pulls_14 : decode cX7_pulls 14 = .ok (.if_icmp .ge 7, 3) := by decide +kernel
theorem dX7_pulls_17 : decode cX7_pulls 17 = .ok (.iconst 1, 1) := by decide +kernel
theorem dX7_pulls_18 : decode cX7_pulls 18 = .ok (.goto 11, 3) := by decide +kernel
theorem dX7_pulls_21 : decode cX7_pulls 21 = .ok (.aload_n 0, 1) := by decide +kernel
theorem dX7_pulls_22 : decode cX7_pulls 22 = .ok (.bipush 14, 2) := by decide +kernel
theorem dX7_pulls_24 : decode cX7_pulls 24 = .ok (.iload_n 1, 1) := by decide +kernel
theorem dX7_pulls_25 : decode cX7_pulls 25 = .ok (.iadd, 1) := by decide +kernel
theorem dX7_pulls_26 : decode cX7_pulls 26 = .ok (.iaload, 1) := by decide +kernel
theorem dX7_pulls_27 : decode cX7_pulls 27 = .ok (.iload_n 2, 1) := by decide +kernel
theorem dX7_pulls_28 : decode cX7_pulls 28 = .ok (.isub, 1) := by decide +kernel
theorem dX7_pulls_29 : decode cX7_pulls 29 = .ok (.iastore, 1) := by decide +kernel
theorem dX7_pulls_30 : decode cX7_pulls 30 = .ok (.return_, 1) := by decide +kernel
set_option maxRecDepth 20000 in
theorem ggX7_pull_X7_isCoat : GoodIn wsX7_pull wsX7_isCoat := goodIn_r _ [6, 1, 7, 8, 5, 9, 20, 21, 22, 23, 24, 25, 26, 27, 28, 29, 30, 31, 32, 33, 34] (by decide +kernel) (by decide +kernel)
set_option maxRecDepth 20000 in
theorem gX7_pull_X7_isCoat : GoodIn wsX7_pull (wsV RX7 56 RX7 yX7_isCoat wsX7_isCoat) := goodIn_app (goodIn_of _ (by decide +kernel)) ggX7_pull_X7_isCoat
set_option maxRecDepth 20000 in
theorem ggX7_pull_X7_in : GoodIn wsX7_pull wsX7_in := goodIn_r _ [9] (by decide +kernel) (by decide +kernel)
set_option maxRecDepth 20000 in
theorem gX7_pull_X7_in : GoodIn wsX7_pull (va_wsS RX7 44 yX7_in wsX7_in) := goodIn_app (goodIn_of _ (by decide +kernel)) ggX7_pull_X7_in
set_option maxRecDepth 20000 in
theorem ggX7_pull_X7_note : GoodIn wsX7_pull wsX7_note := goodIn_r _ [13, 1, 14, 15, 5, 16, 20, 21, 22, 23, 24, 25, 26, 27, 28, 29, 30, 31, 32, 33, 34] (by decide +kernel) (by decide +kernel)
set_option maxRecDepth 20000 in
theorem gX7_pull_X7_note : GoodIn wsX7_pull (wsV RX7 122 RX7 yX7_note wsX7_note) := goodIn_app (goodIn_of _ (by decide +kernel)) ggX7_pull_X7_note
set_option maxRecDepth 20000 in
theorem ggX7_pull_X7_pulls : GoodIn wsX7_pull wsX7_pulls := goodIn_r _ [19] (by decide +kernel) (by decide +kernel)
set_option maxRecDepth 20000 in
theorem gX7_pull_X7_pulls : GoodIn wsX7_pull (va_wsS RX7 128 yX7_pulls wsX7_pulls) := goodIn_app (goodIn_of _ (by decide +kernel)) ggX7_pull_X7_pulls
