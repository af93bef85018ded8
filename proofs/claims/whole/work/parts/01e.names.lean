theorem dX7_pull_0 : decode cX7_pull 0 = .ok (.aload_n 0, 1) := by decide +kernel
theorem dX7_pull_1 : decode cX7_pull 1 = .ok (.iload_n 1, 1) := by decide +kernel
theorem dX7_pull_2 : decode cX7_pull 2 = .ok (.invokevirtual 56, 3) := by decide +kernel
theorem dX7_pull_5 : decode cX7_pull 5 = .ok (.ifCond .eq 13, 3) := by decide +kernel
theorem dX7_pull_8 : decode cX7_pull 8 = .ok (.iload_n 2, 1) := by decide +kernel
theorem dX7_pull_9 : decode cX7_pull 9 = .ok (.iconst 1, 1) := by decide +kernel
theorem dX7_pull_10 : decode cX7_pull 10 = .ok (.bipush 20, 2) := by decide +kernel
theorem dX7_pull_12 : decode cX7_pull 12 = .ok (.invokestatic 44, 3) := by decide +kernel
theorem dX7_pull_15 : decode cX7_pull 15 = .ok (.ifCond .ne 5, 3) := by decide +kernel
theorem dX7_pull_18 : decode cX7_pull 18 = .ok (.iconst (-1), 1) := by decide +kernel
theorem dX7_pull_19 : decode cX7_pull 19 = .ok (.ireturn, 1) := by decide +kernel
theorem dX7_pull_20 : decode cX7_pull 20 = .ok (.aload_n 0, 1) := by decide +kernel
theorem dX7_pull_21 : decode cX7_pull 21 = .ok (.getfield 23, 3) := by decide +kernel
theorem dX7_pull_24 : decode cX7_pull 24 = .ok (.bipush 14, 2) := by decide +kernel
theorem dX7_pull_26 : decode cX7_pull 26 = .ok (.iload_n 1, 1) := by decide +kernel
theorem dX7_pull_27 : decode cX7_pull 27 = .ok (.iadd, 1) := by decide +kernel
theorem dX7_pull_28 : decode cX7_pull 28 = .ok (.iaload, 1) := by decide +kernel
theorem dX7_pull_29 : decode cX7_pull 29 = .ok (.iconst 1, 1) := by decide +kernel
theorem dX7_pull_30 : decode cX7_pull 30 = .ok (.if_icmp .ne 6, 3) := by decide +kernel
theorem dX7_pull_33 : decode cX7_pull 33 = .ok (.bipush (-2), 2) := by decide +kernel
theorem dX7_pull_35 : decode cX7_pull 35 = .ok (.ireturn, 1) := by decide +kernel
theorem dX7_pull_36 : decode cX7_pull 36 = .ok (.aload_n 0, 1) := by decide +kernel
theorem dX7_pull_37 : decode cX7_pull 37 = .ok (.invokevirtual 122, 3) := by decide +kernel
theorem dX7_pull_40 : decode cX7_pull 40 = .ok (.aload_n 0, 1) := by decide +kernel
theorem dX7_pull_41 : decode cX7_pull 41 = .ok (.getfield 23, 3) := by decide +kernel
theorem dX7_pull_44 : decode cX7_pull 44 = .ok (.iload_n 1, 1) := by decide +kernel
theorem dX7_pull_45 : decode cX7_pull 45 = .ok (.iload_n 2, 1) := by decide +kernel
theorem dX7_pull_46 : decode cX7_pull 46 = .ok (.invokestatic 128, 3) := by decide +kernel
theorem dX7_pull_49 : decode cX7_pull 49 = .ok (.aload_n 0, 1) := by decide +kernel
theorem dX7_pull_50 : decode cX7_pull 50 = .ok (.getfield 23, 3) := by decide +kernel
theorem dX7_pull_53 : decode cX7_pull 53 = .ok (.bipush 14, 2) := by decide +kernel
theorem dX7_pull_55 : decode cX7_pull 55 = .ok (.iload_n 1, 1) := by decide +kernel
theorem dX7_pull_56 : decode cX7_pull 56 = .ok (.iadd, 1) := by decide +kernel
theorem dX7_pull_57 : decode cX7_pull 57 = .ok (.iaload, 1) := by decide +kernel
theorem dX7_pull_58 : decode cX7_pull 58 = .ok (.ireturn, 1) := by decide +kernel
set_option maxRecDepth 20000 in
theorem ggX7_fire_X7_in : GoodIn wsX7_fire wsX7_in := goodIn_r _ [5] (by decide +kernel) (by decide +kernel)
set_option maxRecDepth 20000 in
theorem gX7_fire_X7_in : GoodIn wsX7_fire (va_wsS RX7 44 yX7_in wsX7_in) := goodIn_app (goodIn_of _ (by decide +kernel)) ggX7_fire_X7_in
set_option maxRecDepth 20000 in
theorem ggX7_fire_X7_note : GoodIn wsX7_fire wsX7_note := goodIn_r _ [9, 1, 10, 11, 4, 12, 13, 14, 15, 16, 17, 18, 19, 20, 21, 22, 23, 24, 25, 26, 27] (by decide +kernel) (by decide +kernel)
set_option maxRecDepth 20000 in
theorem gX7_fire_X7_note : GoodIn wsX7_fire (wsV RX7 122 RX7 yX7_note wsX7_note) := goodIn_app (goodIn_of _ (by decide +kernel)) ggX7_fire_X7_note
theorem dX7_fire_0 : decode cX7_fire 0 = .ok (.iload_n 1, 1) := by decide +kernel
theorem dX7_fire_1 : decode cX7_fire 1 = .ok (.iconst 0, 1) := by decide +kernel
theorem dX7_fire_2 : decode cX7_fire 2 = .ok (.sipush 999, 3) := by decide +kernel
theorem dX7_fire_5 : decode cX7_fire 5 = .ok (.invokestatic 44, 3) := by decide +kernel
theorem dX7_fire_8 : decode cX7_fire 8 = .ok (.ifCond .ne 5, 3) := by decide +kernel
theorem dX7_fire_11 : decode cX7_fire 11 = .ok (.iconst (-1), 1) := by decide +kernel
theorem dX7_fire_12 : decode cX7_fire 12 = .ok (.ireturn, 1) := by decide +kernel
theorem dX7_fire_13 : decode cX7_fire 13 = .ok (.aload_n 0, 1) := by decide +kernel
theorem dX7_fire_14 : decode cX7_fire 14 = .ok (.invokevirtual 122, 3) := by decide +kernel
theorem dX7_fire_17 : decode cX7_fire 17 = .ok (.aload_n 0, 1) := by decide +kernel
theorem dX7_fire_18 : decode cX7_fire 18 = .ok (.getfield 23, 3) := by decide +kernel
theorem dX7_fire_21 : decode cX7_fire 21 = .ok (.iconst 3, 1) := by decide +kernel
theorem dX7_fire_22 : decode cX7_fire 22 = .ok (.iaload, 1) := by decide +kernel
theorem dX7_fire_23 : decode cX7_fire 23 = .ok (.istore_n 2, 1) := by decide +kernel
theorem dX7_fire_24 : decode cX7_fire 24 = .ok (.iload_n 1, 1) := by decide +kernel
theorem dX7_fire_25 : decode cX7_fire 25 = .ok (.istore_n 3, 1) := by decide +kernel
theorem dX7_fire_26 : decode cX7_fire 26 = .ok (.aload_n 0, 1) := by decide +kernel
theorem dX7_fire_27 : decode cX7_fire 27 = .ok (.getfield 23, 3) := by decide +kernel
theorem dX7_fire_30 : decode cX7_fire 30 = .ok (.iconst 3, 1) := by decide +kernel
theorem dX7_fire_31 : decode cX7_fire 31 = .ok (.iaload, 1) := by decide +kernel
theorem dX7_fire_32 : decode cX7_fire 32 = .ok (.ifCond .le 7, 3) := by decide +kernel
theorem dX7_fire_35 : decode cX7_fire 35 = .ok (.iconst 1, 1) := by decide +kernel
theorem dX7_fire_36 : decode cX7_fire 36 = .ok (.goto 4, 3) := by decide +kernel
theorem dX7_fire_39 : decode cX7_fire 39 = .ok (.iconst 0, 1) := by decide +kernel
theorem dX7_fire_40 : decode cX7_fire 40 = .ok (.istore 4, 2) := by decide +kernel
theorem dX7_fire_42 : decode cX7_fire 42 = .ok (.iload 4, 2) := by decide +kernel
theorem dX7_fire_44 : decode cX7_fire 44 = .ok (.ifCond .eq 103, 3) := by decide +kernel
theorem dX7_fire_47 : decode cX7_fire 47 = .ok (.aload_n 0, 1) := by decide +kernel
theorem dX7_fire_48 : decode cX7_fire 48 = .ok (.getfield 23, 3) := by decide +kernel
theorem dX7_fire_51 : decode cX7_fire 51 = .ok (.iconst 3, 1) := by decide +kernel
theorem dX7_fire_52 : decode cX7_fire 52 = .ok (.iaload, 1) := by decide +kernel
theorem dX7_fire_53 : decode cX7_fire 53 = .ok (.iconst 1, 1) := by decide +kernel
theorem dX7_fire_54 : decode cX7_fire 54 = .ok (.isub, 1) := by decide +kernel
theorem dX7_fire_55 : decode cX7_fire 55 = .ok (.istore 5, 2) := by decide +kernel
theorem dX7_fire_57 : decode cX7_fire 57 = .ok (.aload_n 0, 1) := by decide +kernel
theorem dX7_fire_58 : decode cX7_fire 58 = .ok (.getfield 23, 3) := by decide +kernel
theorem dX7_fire_61 : decode cX7_fire 61 = .ok (.bipush 14, 2) := by decide +kernel
theorem dX7_fire_63 : decode cX7_fire 63 = .ok (.iload 5, 2) := by decide +kernel
theorem dX7_fire_65 : decode cX7_fire 65 = .ok (.iadd, 1) := by decide +kernel
theorem dX7_fire_66 : decode cX7_fire 66 = .ok (.iaload, 1) := by decide +kernel
theorem dX7_fire_67 : decode cX7_fire 67 = .ok (.aload_n 0, 1) := by decide +kernel
theorem dX7_fire_68 : decode cX7_fire 68 = .ok (.getfield 23, 3) := by decide +kernel
theorem dX7_fire_71 : decode cX7_fire 71 = .ok (.bipush 24, 2) := by decide +kernel
theorem dX7_fire_73 : decode cX7_fire 73 = .ok (.iload 5, 2) := by decide +kernel
theorem dX7_fire_75 : decode cX7_fire 75 = .ok (.iadd, 1) := by decide +kernel
theorem dX7_fire_76 : decode cX7_fire 76 = .ok (.iaload, 1) := by decide +kernel
theorem dX7_fire_77 : decode cX7_fire 77 = .ok (.iadd, 1) := by decide +kernel
theorem dX7_fire_78 : decode cX7_fire 78 = .ok (.istore 6, 2) := by decide +kernel
theorem dX7_fire_80 : decode cX7_fire 80 = .ok (.aload_n 0, 1) := by decide +kernel
theorem dX7_fire_81 : decode cX7_fire 81 = .ok (.getfield 23, 3) := by decide +kernel
theorem dX7_fire_84 : decode cX7_fire 84 = .ok (.bipush 24, 2) := by decide +kernel
theorem dX7_fire_86 : decode cX7_fire 86 = .ok (.iload 5, 2) := by decide +kernel
theorem dX7_fire_88 : decode cX7_fire 88 = .ok (.iadd, 1) := by decide +kernel
theorem dX7_fire_89 : decode cX7_fire 89 = .ok (.iaload, 1) := by decide +kernel
theorem dX7_fire_90 : decode cX7_fire 90 = .ok (.bipush 7, 2) := by decide +kernel
theorem dX7_fire_92 : decode cX7_fire 92 = .ok (.if_icmp .ge 13, 3) := by decide +kernel
theorem dX7_fire_95 : decode cX7_fire 95 = .ok (.iload_n 3, 1) := by decide +kernel
theorem dX7_fire_96 : decode cX7_fire 96 = .ok (.iload 6, 2) := by decide +kernel
theorem dX7_fire_98 : decode cX7_fire 98 = .ok (.if_icmp .lt 7, 3) := by decide +kernel
theorem dX7_fire_101 : decode cX7_fire 101 = .ok (.iconst 1, 1) := by decide +kernel
theorem dX7_fire_102 : decode cX7_fire 102 = .ok (.goto 4, 3) := by decide +kernel
theorem dX7_fire_105 : decode cX7_fire 105 = .ok (.iconst 0, 1) := by decide +kernel
theorem dX7_fire_106 : decode cX7_fire 106 = .ok (.istore 4, 2) := by decide +kernel
theorem dX7_fire_108 : decode cX7_fire 108 = .ok (.iload 4, 2) := by decide +kernel
theorem dX7_fire_110 : decode cX7_fire 110 = .ok (.ifCond .eq 34, 3) := by decide +kernel
theorem dX7_fire_113 : decode cX7_fire 113 = .ok (.iload_n 3, 1) := by decide +kernel
theorem dX7_fire_114 : decode cX7_fire 114 = .ok (.iload 6, 2) := by decide +kernel
theorem dX7_fire_116 : decode cX7_fire 116 = .ok (.isub, 1) := by decide +kernel
theorem dX7_fire_117 : decode cX7_fire 117 = .ok (.istore_n 3, 1) := by decide +kernel
theorem dX7_fire_118 : decode cX7_fire 118 = .ok (.aload_n 0, 1) := by decide +kernel
theorem dX7_fire_119 : decode cX7_fire 119 = .ok (.getfield 23, 3) := by decide +kernel
theorem dX7_fire_122 : decode cX7_fire 122 = .ok (.iconst 3, 1) := by decide +kernel
theorem dX7_fire_123 : decode cX7_fire 123 = .ok (.dup2, 1) := by decide +kernel
theorem dX7_fire_124 : decode cX7_fire 124 = .ok (.iaload, 1) := by decide +kernel
theorem dX7_fire_125 : decode cX7_fire 125 = .ok (.iconst 1, 1) := by decide +kernel
theorem dX7_fire_126 : decode cX7_fire 126 = .ok (.isub, 1) := by decide +kernel
theorem dX7_fire_127 : decode cX7_fire 127 = .ok (.iastore, 1) := by decide +kernel
theorem dX7_fire_128 : decode cX7_fire 128 = .ok (.aload_n 0, 1) := by decide +kernel
theorem dX7_fire_129 : decode cX7_fire 129 = .ok (.getfield 23, 3) := by decide +kernel
theorem dX7_fire_132 : decode cX7_fire 132 = .ok (.iconst 3, 1) := by decide +kernel
theorem dX7_fire_133 : decode cX7_fire 133 = .ok (.iaload, 1) := by decide +kernel
theorem dX7_fire_134 : decode cX7_fire 134 = .ok (.ifCond .le 7, 3) := by decide +kernel
theorem dX7_fire_137 : decode cX7_fire 137 = .ok (.iconst 1, 1) := by decide +kernel
theorem dX7_fire_138 : decode cX7_fire 138 = .ok (.goto 4, 3) := by decide +kernel
theorem dX7_fire_141 : decode cX7_fire 141 = .ok (.iconst 0, 1) := by decide +kernel
theorem dX7_fire_142 : decode cX7_fire 142 = .ok (.istore 4, 2) := by decide +kernel
theorem dX7_fire_144 : decode cX7_fire 144 = .ok (.goto (-102), 3) := by decide +kernel
theorem dX7_fire_147 : decode cX7_fire 147 = .ok (.iload_n 2, 1) := by decide +kernel
theorem dX7_fire_148 : decode cX7_fire 148 = .ok (.aload_n 0, 1) := by decide +kernel
theorem dX7_fire_149 : decode cX7_fire 149 = .ok (.getfield 23, 3) := by decide +kernel
theorem dX7_fire_152 : decode cX7_fire 152 = .ok (.iconst 3, 1) := by decide +kernel
theorem dX7_fire_153 : decode cX7_fire 153 = .ok (.iaload, 1) := by decide +kernel
theorem dX7_fire_154 : decode cX7_fire 154 = .ok (.isub, 1) := by decide +kernel
theorem dX7_fire_155 : decode cX7_fire 155 = .ok (.ireturn, 1) := by decide +kernel
set_option maxRecDepth 20000 in
theorem ggX7_drift_X7_in : GoodIn wsX7_drift wsX7_in := goodIn_r _ [9] (by decide +kernel) (by decide +kernel)
set_option maxRecDepth 20000 in
theorem gX7_drift_X7_in : GoodIn wsX7_drift (va_wsS RX7 44 yX7_in wsX7_in) := goodIn_app (goodIn_of _ (by decide +kernel)) ggX7_drift_X7_in
set_option maxRecDepth 20000 in
theorem ggX7_drift_X7_note : GoodIn wsX7_drift wsX7_note := goodIn_r _ [13, 1, 14, 15, 8, 16, 39, 40, 41, 42, 43, 44, 45, 46, 47, 48, 49, 50, 51, 52, 53] (by decide +kernel) (by decide +kernel)
set_option maxRecDepth 20000 in
theorem gX7_drift_X7_note : GoodIn wsX7_drift (wsV RX7 122 RX7 yX7_note wsX7_note) := goodIn_app (goodIn_of _ (by decide +kernel)) ggX7_drift_X7_note
set_option maxRecDepth 20000 in
theorem ggX7_drift_X7_pulls : GoodIn wsX7_drift wsX7_pulls := goodIn_r _ [19] (by decide +kernel) (by decide +kernel)
set_option maxRecDepth 20000 in
theorem gX7_drift_X7_pulls : GoodIn wsX7_drift (va_wsS RX7 128 yX7_pulls wsX7_pulls) := goodIn_app (goodIn_of _ (by decide +kernel)) ggX7_drift_X7_pulls
set_option maxRecDepth 20000 in
theorem ggX7_drift_X7_yearIn : GoodIn wsX7_drift wsX7_yearIn := goodIn_r _ [23, 24, 25, 8, 26, 27, 28, 29, 30, 31, 32, 33, 34, 35, 36, 37, 38, 39, 40, 41, 42, 43, 44, 45, 46, 47, 48, 49, 50, 51, 52, 53] (by decide +kernel) (by decide +kernel)
set_option maxRecDepth 20000 in
theorem gX7_drift_X7_yearIn : GoodIn wsX7_drift (wsV RX7 125 RX7 yX7_yearIn wsX7_yearIn) := goodIn_app (goodIn_of _ (by decide +kernel)) ggX7_drift_X7_yearIn
theorem dX7_drift_0 : decode cX7_drift 0 = .ok (.iload_n 1, 1) := by decide +kernel
theorem dX7_drift_1 : decode cX7_drift 1 = .ok (.iconst 1, 1) := by decide +kernel
theorem dX7_drift_2 : decode cX7_drift 2 = .ok (.bipush 40, 2) := by decide +kernel
theorem dX7_drift_4 : decode cX7_drift 4 = .ok (.invokestatic 44, 3) := by decide +kernel
theorem dX7_drift_7 : decode cX7_drift 7 = .ok (.ifCond .ne 5, 3) := by decide +kernel
theorem dX7_drift_10 : decode cX7_drift 10 = .ok (.iconst (-1), 1) := by decide +kernel
theorem dX7_drift_11 : decode cX7_drift 11 = .ok (.ireturn, 1) := by decide +kernel
theorem dX7_drift_12 : decode cX7_drift 12 = .ok (.aload_n 0, 1) := by decide +kernel
theorem dX7_drift_13 : decode cX7_drift 13 = .ok (.getfield 23, 3) := by decide +kernel
theorem dX7_drift_16 : decode cX7_drift 16 = .ok (.iconst 0, 1) := by decide +kernel
theorem dX7_drift_17 : decode cX7_drift 17 = .ok (.iaload, 1) := by decide +kernel
theorem dX7_drift_18 : decode cX7_drift 18 = .ok (.iload_n 1, 1) := by decide +kernel
theorem dX7_drift_19 : decode cX7_drift 19 = .ok (.iadd, 1) := by decide +kernel
theorem dX7_drift_20 : decode cX7_drift 20 = .ok (.sipush 9999, 3) := by decide +kernel
theorem dX7_drift_23 : decode cX7_drift 23 = .ok (.if_icmp .le 6, 3) := by decide +kernel
theorem dX7_drift_26 : decode cX7_drift 26 = .ok (.bipush (-3), 2) := by decide +kernel
theorem dX7_drift_28 : decode cX7_drift 28 = .ok (.ireturn, 1) := by decide +kernel
theorem dX7_drift_29 : decode cX7_drift 29 = .ok (.iconst 0, 1) := by decide +kernel
theorem dX7_drift_30 : decode cX7_drift 30 = .ok (.istore_n 2, 1) := by decide +kernel
theorem dX7_drift_31 : decode cX7_drift 31 = .ok (.iconst 0, 1) := by decide +kernel
theorem dX7_drift_32 : decode cX7_drift 32 = .ok (.istore_n 3, 1) := by decide +kernel
theorem dX7_drift_33 : decode cX7_drift 33 = .ok (.iload_n 3, 1) := by decide +kernel
theorem dX7_drift_34 : decode cX7_drift 34 = .ok (.iload_n 1, 1) := by decide +kernel
theorem dX7_drift_35 : decode cX7_drift 35 = .ok (.if_icmp .ge 98, 3) := by decide +kernel
theorem dX7_drift_38 : decode cX7_drift 38 = .ok (.aload_n 0, 1) := by decide +kernel
theorem dX7_drift_39 : decode cX7_drift 39 = .ok (.invokevirtual 122, 3) := by decide +kernel
theorem dX7_drift_42 : decode cX7_drift 42 = .ok (.aload_n 0, 1) := by decide +kernel
theorem dX7_drift_43 : decode cX7_drift 43 = .ok (.getfield 23, 3) := by decide +kernel
theorem dX7_drift_46 : decode cX7_drift 46 = .ok (.iconst 1, 1) := by decide +kernel
theorem dX7_drift_47 : decode cX7_drift 47 = .ok (.aload_n 0, 1) := by decide +kernel
theorem dX7_drift_48 : decode cX7_drift 48 = .ok (.getfield 23, 3) := by decide +kernel
theorem dX7_drift_51 : decode cX7_drift 51 = .ok (.iconst 1, 1) := by decide +kernel
theorem dX7_drift_52 : decode cX7_drift 52 = .ok (.iaload, 1) := by decide +kernel
theorem dX7_drift_53 : decode cX7_drift 53 = .ok (.i2l, 1) := by decide +kernel
theorem dX7_drift_54 : decode cX7_drift 54 = .ok (.ldc2_w 132, 3) := by decide +kernel
theorem dX7_drift_57 : decode cX7_drift 57 = .ok (.lmul, 1) := by decide +kernel
theorem dX7_drift_58 : decode cX7_drift 58 = .ok (.ldc2_w 134, 3) := by decide +kernel
theorem dX7_drift_61 : decode cX7_drift 61 = .ok (.ladd, 1) := by decide +kernel
theorem dX7_drift_62 : decode cX7_drift 62 = .ok (.ldc2_w 136, 3) := by decide +kernel
theorem dX7_drift_65 : decode cX7_drift 65 = .ok (.lrem, 1) := by decide +kernel
theorem dX7_drift_66 : decode cX7_drift 66 = .ok (.l2i, 1) := by decide +kernel
theorem dX7_drift_67 : decode cX7_drift 67 = .ok (.iastore, 1) := by decide +kernel
theorem dX7_drift_68 : decode cX7_drift 68 = .ok (.aload_n 0, 1) := by decide +kernel
theorem dX7_drift_69 : decode cX7_drift 69 = .ok (.getfield 23, 3) := by decide +kernel
theorem dX7_drift_72 : decode cX7_drift 72 = .ok (.iconst 1, 1) := by decide +kernel
theorem dX7_drift_73 : decode cX7_drift 73 = .ok (.iaload, 1) := by decide +kernel
theorem dX7_drift_74 : decode cX7_drift 74 = .ok (.ldc 138, 2) := by decide +kernel
theorem dX7_drift_76 : decode cX7_drift 76 = .ok (.idiv, 1) := by decide +kernel
theorem dX7_drift_77 : decode cX7_drift 77 = .ok (.iconst 3, 1) := by decide +kernel
theorem dX7_drift_78 : decode cX7_drift 78 = .ok (.irem, 1) := by decide +kernel
theorem dX7_drift_79 : decode cX7_drift 79 = .ok (.ifCond .ne 37, 3) := by decide +kernel
theorem dX7_drift_82 : decode cX7_drift 82 = .ok (.aload_n 0, 1) := by decide +kernel
theorem dX7_drift_83 : decode cX7_drift 83 = .ok (.getfield 23, 3) := by decide +kernel
theorem dX7_drift_86 : decode cX7_drift 86 = .ok (.iconst 3, 1) := by decide +kernel
theorem dX7_drift_87 : decode cX7_drift 87 = .ok (.iaload, 1) := by decide +kernel
theorem dX7_drift_88 : decode cX7_drift 88 = .ok (.ifCond .le 28, 3) := by decide +kernel
theorem dX7_drift_91 : decode cX7_drift 91 = .ok (.aload_n 0, 1) := by decide +kernel
theorem dX7_drift_92 : decode cX7_drift 92 = .ok (.getfield 23, 3) := by decide +kernel
theorem dX7_drift_95 : decode cX7_drift 95 = .ok (.aload_n 0, 1) := by decide +kernel
theorem dX7_drift_96 : decode cX7_drift 96 = .ok (.getfield 23, 3) := by decide +kernel
theorem dX7_drift_99 : decode cX7_drift 99 = .ok (.iconst 1, 1) := by decide +kernel
theorem dX7_drift_100 : decode cX7_drift 100 = .ok (.iaload, 1) := by decide +kernel
theorem dX7_drift_101 : decode cX7_drift 101 = .ok (.sipush 128, 3) := by decide +kernel
theorem dX7_drift_104 : decode cX7_drift 104 = .ok (.idiv, 1) := by decide +kernel
theorem dX7_drift_105 : decode cX7_drift 105 = .ok (.aload_n 0, 1) := by decide +kernel
theorem dX7_drift_106 : decode cX7_drift 106 = .ok (.getfield 23, 3) := by decide +kernel
theorem dX7_drift_109 : decode cX7_drift 109 = .ok (.iconst 3, 1) := by decide +kernel
theorem dX7_drift_110 : decode cX7_drift 110 = .ok (.iaload, 1) := by decide +kernel
theorem dX7_drift_111 : decode cX7_drift 111 = .ok (.irem, 1) := by decide +kernel
theorem dX7_drift_112 : decode cX7_drift 112 = .ok (.iconst 1, 1) := by decide +kernel
theorem dX7_drift_113 : decode cX7_drift 113 = .ok (.invokestatic 128, 3) := by decide +kernel
theorem dX7_drift_116 : decode cX7_drift 116 = .ok (.iload_n 2, 1) := by decide +kernel
theorem dX7_drift_117 : decode cX7_drift 117 = .ok (.aload_n 0, 1) := by decide +kernel
theorem dX7_drift_118 : decode cX7_drift 118 = .ok (.aload_n 0, 1) := by decide +kernel
theorem dX7_drift_119 : decode cX7_drift 119 = .ok (.getfield 23, 3) := by decide +kernel
theorem dX7_drift_122 : decode cX7_drift 122 = .ok (.invokevirtual 125, 3) := by decide +kernel
theorem dX7_drift_125 : decode cX7_drift 125 = .ok (.iadd, 1) := by decide +kernel
theorem dX7_drift_126 : decode cX7_drift 126 = .ok (.istore_n 2, 1) := by decide +kernel
theorem dX7_drift_127 : decode cX7_drift 127 = .ok (.iinc 3 1, 3) := by decide +kernel
theorem dX7_drift_130 : decode cX7_drift 130 = .ok (.goto (-97), 3) := by decide +kernel
theorem dX7_drift_133 : decode cX7_drift 133 = .ok (.iload_n 2, 1) := by decide +kernel
theorem dX7_drift_134 : decode cX7_drift 134 = .ok (.ireturn, 1) := by decide +kernel
set_option maxRecDepth 20000 in
theorem ggX7_undo_X7_bring : GoodIn wsX7_undo wsX7_bring := goodIn_r _ [5] (by decide +kernel) (by decide +kernel)
set_option maxRecDepth 20000 in
theorem gX7_undo_X7_bring : GoodIn wsX7_undo (va_wsS RX7 105 yX7_bring wsX7_bring) := goodIn_app (goodIn_of _ (by decide +kernel)) ggX7_undo_X7_bring
theorem dX7_undo_0 : decode cX7_undo 0 = .ok (.aload_n 0, 1) := by decide +kernel
theorem dX7_undo_1 : decode cX7_undo 1 = .ok (.getfield 23, 3) := by decide +kernel
theorem dX7_undo_4 : decode cX7_undo 4 = .ok (.bipush 54, 2) := by decide +kernel
theorem dX7_undo_6 : decode cX7_undo 6 = .ok (.iaload, 1) := by decide +kernel
theorem dX7_undo_7 : decode cX7_undo 7 = .ok (.ifCond .ne 6, 3) := by decide +kernel
theorem dX7_undo_10 : decode cX7_undo 10 = .ok (.bipush (-4), 2) := by decide +kernel
theorem dX7_undo_12 : decode cX7_undo 12 = .ok (.ireturn, 1) := by decide +kernel
theorem dX7_undo_13 : decode cX7_undo 13 = .ok (.aload_n 0, 1) := by decide +kernel
theorem dX7_undo_14 : decode cX7_undo 14 = .ok (.getfield 23, 3) := by decide +kernel
theorem dX7_undo_17 : decode cX7_undo 17 = .ok (.bipush 54, 2) := by decide +kernel
theorem dX7_undo_19 : decode cX7_undo 19 = .ok (.dup2, 1) := by decide +kernel
theorem dX7_undo_20 : decode cX7_undo 20 = .ok (.iaload, 1) := by decide +kernel
theorem dX7_undo_21 : decode cX7_undo 21 = .ok (.iconst 1, 1) := by decide +kernel
theorem dX7_undo_22 : decode cX7_undo 22 = .ok (.isub, 1) := by decide +kernel
theorem dX7_undo_23 : decode cX7_undo 23 = .ok (.iastore, 1) := by decide +kernel
theorem dX7_undo_24 : decode cX7_undo 24 = .ok (.aload_n 0, 1) := by decide +kernel
theorem dX7_undo_25 : decode cX7_undo 25 = .ok (.getfield 23, 3) := by decide +kernel
theorem dX7_undo_28 : decode cX7_undo 28 = .ok (.bipush 55, 2) := by decide +kernel
theorem dX7_undo_30 : decode cX7_undo 30 = .ok (.bipush 44, 2) := by decide +kernel
theorem dX7_undo_32 : decode cX7_undo 32 = .ok (.aload_n 0, 1) := by decide +kernel
theorem dX7_undo_33 : decode cX7_undo 33 = .ok (.getfield 23, 3) := by decide +kernel
theorem dX7_undo_36 : decode cX7_undo 36 = .ok (.bipush 54, 2) := by decide +kernel
theorem dX7_undo_38 : decode cX7_undo 38 = .ok (.iaload, 1) := by decide +kernel
theorem dX7_undo_39 : decode cX7_undo 39 = .ok (.imul, 1) := by decide +kernel
theorem dX7_undo_40 : decode cX7_undo 40 = .ok (.iadd, 1) := by decide +kernel
theorem dX7_undo_41 : decode cX7_undo 41 = .ok (.aload_n 0, 1) := by decide +kernel
theorem dX7_undo_42 : decode cX7_undo 42 = .ok (.getfield 23, 3) := by decide +kernel
theorem dX7_undo_45 : decode cX7_undo 45 = .ok (.iconst 0, 1) := by decide +kernel
theorem dX7_undo_46 : decode cX7_undo 46 = .ok (.bipush 44, 2) := by decide +kernel
theorem dX7_undo_48 : decode cX7_undo 48 = .ok (.invokestatic 105, 3) := by decide +kernel
theorem dX7_undo_51 : decode cX7_undo 51 = .ok (.aload_n 0, 1) := by decide +kernel
theorem dX7_undo_52 : decode cX7_undo 52 = .ok (.getfield 23, 3) := by decide +kernel
theorem dX7_undo_55 : decode cX7_undo 55 = .ok (.bipush 54, 2) := by decide +kernel
theorem dX7_undo_57 : decode cX7_undo 57 = .ok (.iaload, 1) := by decide +kernel
theorem dX7_undo_58 : decode cX7_undo 58 = .ok (.ireturn, 1) := by decide +kernel
theorem dX7_seed_0 : decode cX7_seed 0 = .ok (.iload_n 1, 1) := by decide +kernel
theorem dX7_seed_1 : decode cX7_seed 1 = .ok (.ifCond .ge 5, 3) := by decide +kernel
theorem dX7_seed_4 : decode cX7_seed 4 = .ok (.iconst (-1), 1) := by decide +kernel
theorem dX7_seed_5 : decode cX7_seed 5 = .ok (.ireturn, 1) := by decide +kernel
theorem dX7_seed_6 : decode cX7_seed 6 = .ok (.aload_n 0, 1) := by decide +kernel
theorem dX7_seed_7 : decode cX7_seed 7 = .ok (.getfield 23, 3) := by decide +kernel
theorem dX7_seed_10 : decode cX7_seed 10 = .ok (.iconst 1, 1) := by decide +kernel
theorem dX7_seed_11 : decode cX7_seed 11 = .ok (.iaload, 1) := by decide +kernel
theorem dX7_seed_12 : decode cX7_seed 12 = .ok (.istore_n 2, 1) := by decide +kernel
theorem dX7_seed_13 : decode cX7_seed 13 = .ok (.aload_n 0, 1) := by decide +kernel
theorem dX7_seed_14 : decode cX7_seed 14 = .ok (.getfield 23, 3) := by decide +kernel
theorem dX7_seed_17 : decode cX7_seed 17 = .ok (.iconst 1, 1) := by decide +kernel
theorem dX7_seed_18 : decode cX7_seed 18 = .ok (.iload_n 1, 1) := by decide +kernel
theorem dX7_seed_19 : decode cX7_seed 19 = .ok (.iastore, 1) := by decide +kernel
theorem dX7_seed_20 : decode cX7_seed 20 = .ok (.iload_n 2, 1) := by decide +kernel
theorem dX7_seed_21 : decode cX7_seed 21 = .ok (.ireturn, 1) := by decide +kernel
set_option maxRecDepth 20000 in
theorem ggX7_begin_X7_bring : GoodIn wsX7_begin wsX7_bring := goodIn_r _ [6] (by decide +kernel) (by decide +kernel)
set_option maxRecDepth 20000 in
theorem gX7_begin_X7_bring : GoodIn wsX7_begin (va_wsS RX7 105 yX7_bring wsX7_bring) := goodIn_app (goodIn_of _ (by decide +kernel)) ggX7_begin_X7_bring
theorem dX7_begin_0 : decode cX7_begin 0 = .ok (.aload_n 0, 1) := by decide +kernel
theorem dX7_begin_1 : decode cX7_begin 1 = .ok (.getfield 23, 3) := by decide +kernel
theorem dX7_begin_4 : decode cX7_begin 4 = .ok (.iconst 0, 1) := by decide +kernel
theorem dX7_begin_5 : decode cX7_begin 5 = .ok (.aload_n 0, 1) := by decide +kernel
theorem dX7_begin_6 : decode cX7_begin 6 = .ok (.getfield 26, 3) := by decide +kernel
theorem dX7_begin_9 : decode cX7_begin 9 = .ok (.iconst 0, 1) := by decide +kernel
theorem dX7_begin_10 : decode cX7_begin 10 = .ok (.bipush 54, 2) := by decide +kernel
theorem dX7_begin_12 : decode cX7_begin 12 = .ok (.invokestatic 105, 3) := by decide +kernel
theorem dX7_begin_15 : decode cX7_begin 15 = .ok (.return_, 1) := by decide +kernel
set_option maxRecDepth 20000 in
theorem ggX7_goOn_X7_yearIn : GoodIn wsX7_goOn wsX7_yearIn := goodIn_r _ [6, 7, 8, 5, 9, 10, 11, 12, 13, 14, 15, 16, 17, 18, 19, 20, 21, 22, 23, 24, 25, 26, 27, 28, 29, 30, 31, 32, 33, 34, 35, 36] (by decide +kernel) (by decide +kernel)
set_option maxRecDepth 20000 in
theorem gX7_goOn_X7_yearIn : GoodIn wsX7_goOn (wsV RX7 125 RX7 yX7_yearIn wsX7_yearIn) := goodIn_app (goodIn_of _ (by decide +kernel)) ggX7_goOn_X7_yearIn
theorem dX7_goOn_0 : decode cX7_goOn 0 = .ok (.iconst 0, 1) := by decide +kernel
theorem dX7_goOn_1 : decode cX7_goOn 1 = .ok (.istore_n 2, 1) := by decide +kernel
theorem dX7_goOn_2 : decode cX7_goOn 2 = .ok (.iconst 0, 1) := by decide +kernel
theorem dX7_goOn_3 : decode cX7_goOn 3 = .ok (.istore_n 3, 1) := by decide +kernel
theorem dX7_goOn_4 : decode cX7_goOn 4 = .ok (.iload_n 3, 1) := by decide +kernel
theorem dX7_goOn_5 : decode cX7_goOn 5 = .ok (.iload_n 1, 1) := by decide +kernel
theorem dX7_goOn_6 : decode cX7_goOn 6 = .ok (.if_icmp .ge 20, 3) := by decide +kernel
theorem dX7_goOn_9 : decode cX7_goOn 9 = .ok (.iload_n 2, 1) := by decide +kernel
theorem dX7_goOn_10 : decode cX7_goOn 10 = .ok (.aload_n 0, 1) := by decide +kernel
theorem dX7_goOn_11 : decode cX7_goOn 11 = .ok (.aload_n 0, 1) := by decide +kernel
theorem dX7_goOn_12 : decode cX7_goOn 12 = .ok (.getfield 26, 3) := by decide +kernel
theorem dX7_goOn_15 : decode cX7_goOn 15 = .ok (.invokevirtual 125, 3) := by decide +kernel
theorem dX7_goOn_18 : decode cX7_goOn 18 = .ok (.iadd, 1) := by decide +kernel
theorem dX7_goOn_19 : decode cX7_goOn 19 = .ok (.istore_n 2, 1) := by decide +kernel
theorem dX7_goOn_20 : decode cX7_goOn 20 = .ok (.iinc 3 1, 3) := by decide +kernel
theorem dX7_goOn_23 : decode cX7_goOn 23 = .ok (.goto (-19), 3) := by decide +kernel
theorem dX7_goOn_26 : decode cX7_goOn 26 = .ok (.iload_n 2, 1) := by decide +kernel
theorem dX7_goOn_27 : decode cX7_goOn 27 = .ok (.ireturn, 1) := by decide +kernel
set_option maxRecDepth 20000 in
theorem ggX7_ahead_X7_in : GoodIn wsX7_ahead wsX7_in := goodIn_r _ [5] (by decide +kernel) (by decide +kernel)
set_option maxRecDepth 20000 in
theorem gX7_ahead_X7_in : GoodIn wsX7_ahead (va_wsS RX7 44 yX7_in wsX7_in) := goodIn_app (goodIn_of _ (by decide +kernel)) ggX7_ahead_X7_in
set_option maxRecDepth 20000 in
theorem ggX7_ahead_X7_begin : GoodIn wsX7_ahead wsX7_begin := goodIn_r _ [9, 10, 1, 11, 12, 4, 13, 43, 44, 45, 46, 47, 48, 49, 50, 51, 52, 53, 54, 55, 56, 57] (by decide +kernel) (by decide +kernel)
set_option maxRecDepth 20000 in
theorem gX7_ahead_X7_begin : GoodIn wsX7_ahead (wsV RX7 139 RX7 yX7_begin wsX7_begin) := goodIn_app (goodIn_of _ (by decide +kernel)) ggX7_ahead_X7_begin
set_option maxRecDepth 20000 in
theorem ggX7_ahead_X7_goOn : GoodIn wsX7_ahead wsX7_goOn := goodIn_r _ [17, 1, 18, 19, 20, 4, 21, 22, 23, 24, 25, 26, 27, 28, 29, 30, 31, 32, 33, 34, 35, 36, 43, 44, 45, 46, 47, 48, 49, 50, 51, 52, 53, 54, 55, 56, 57] (by decide +kernel) (by decide +kernel)
set_option maxRecDepth 20000 in
theorem gX7_ahead_X7_goOn : GoodIn wsX7_ahead (wsV RX7 142 RX7 yX7_goOn wsX7_goOn) := goodIn_app (goodIn_of _ (by decide +kernel)) ggX7_ahead_X7_goOn
set_option maxRecDepth 20000 in
theorem ggX7_ahead_X7_heavy : GoodIn wsX7_ahead wsX7_heavy := goodIn_r _ [39, 40, 41, 4, 42] (by decide +kernel) (by decide +kernel)
set_option maxRecDepth 20000 in
theorem gX7_ahead_X7_heavy : GoodIn wsX7_ahead (va_wsS RX7 112 yX7_heavy wsX7_heavy) := goodIn_app (goodIn_of _ (by decide +kernel)) ggX7_ahead_X7_heavy
theorem dX7_ahead_0 : decode cX7_ahead 0 = .ok (.iload_n 1, 1) := by decide +kernel
theorem dX7_ahead_1 : decode cX7_ahead 1 = .ok (.iconst 0, 1) := by decide +kernel
theorem dX7_ahead_2 : decode cX7_ahead 2 = .ok (.bipush 40, 2) := by decide +kernel
theorem dX7_ahead_4 : decode cX7_ahead 4 = .ok (.invokestatic 44, 3) := by decide +kernel
theorem dX7_ahead_7 : decode cX7_ahead 7 = .ok (.ifCond .eq 12, 3) := by decide +kernel
theorem dX7_ahead_10 : decode cX7_ahead 10 = .ok (.iload_n 2, 1) := by decide +kernel
theorem dX7_ahead_11 : decode cX7_ahead 11 = .ok (.iconst 0, 1) := by decide +kernel
theorem dX7_ahead_12 : decode cX7_ahead 12 = .ok (.iconst 2, 1) := by decide +kernel
theorem dX7_ahead_13 : decode cX7_ahead 13 = .ok (.invokestatic 44, 3) := by decide +kernel
theorem dX7_ahead_16 : decode cX7_ahead 16 = .ok (.ifCond .ne 5, 3) := by decide +kernel
theorem dX7_ahead_19 : decode cX7_ahead 19 = .ok (.iconst (-1), 1) := by decide +kernel
theorem dX7_ahead_20 : decode cX7_ahead 20 = .ok (.ireturn, 1) := by decide +kernel
theorem dX7_ahead_21 : decode cX7_ahead 21 = .ok (.aload_n 0, 1) := by decide +kernel
theorem dX7_ahead_22 : decode cX7_ahead 22 = .ok (.invokevirtual 139, 3) := by decide +kernel
theorem dX7_ahead_25 : decode cX7_ahead 25 = .ok (.aload_n 0, 1) := by decide +kernel
theorem dX7_ahead_26 : decode cX7_ahead 26 = .ok (.iload_n 1, 1) := by decide +kernel
theorem dX7_ahead_27 : decode cX7_ahead 27 = .ok (.invokevirtual 142, 3) := by decide +kernel
theorem dX7_ahead_30 : decode cX7_ahead 30 = .ok (.pop, 1) := by decide +kernel
theorem dX7_ahead_31 : decode cX7_ahead 31 = .ok (.iload_n 2, 1) := by decide +kernel
theorem dX7_ahead_32 : decode cX7_ahead 32 = .ok (.ifCond .ne 12, 3) := by decide +kernel
theorem dX7_ahead_35 : decode cX7_ahead 35 = .ok (.aload_n 0, 1) := by decide +kernel
theorem dX7_ahead_36 : decode cX7_ahead 36 = .ok (.getfield 26, 3) := by decide +kernel
theorem dX7_ahead_39 : decode cX7_ahead 39 = .ok (.iconst 3, 1) := by decide +kernel
theorem dX7_ahead_40 : decode cX7_ahead 40 = .ok (.iaload, 1) := by decide +kernel
theorem dX7_ahead_41 : decode cX7_ahead 41 = .ok (.goto 24, 3) := by decide +kernel
theorem dX7_ahead_44 : decode cX7_ahead 44 = .ok (.iload_n 2, 1) := by decide +kernel
theorem dX7_ahead_45 : decode cX7_ahead 45 = .ok (.iconst 1, 1) := by decide +kernel
theorem dX7_ahead_46 : decode cX7_ahead 46 = .ok (.if_icmp .ne 12, 3) := by decide +kernel
theorem dX7_ahead_49 : decode cX7_ahead 49 = .ok (.aload_n 0, 1) := by decide +kernel
theorem dX7_ahead_50 : decode cX7_ahead 50 = .ok (.getfield 26, 3) := by decide +kernel
theorem dX7_ahead_53 : decode cX7_ahead 53 = .ok (.iconst 2, 1) := by decide +kernel
theorem dX7_ahead_54 : decode cX7_ahead 54 = .ok (.iaload, 1) := by decide +kernel
theorem dX7_ahead_55 : decode cX7_ahead 55 = .ok (.goto 10, 3) := by decide +kernel
theorem dX7_ahead_58 : decode cX7_ahead 58 = .ok (.aload_n 0, 1) := by decide +kernel
theorem dX7_ahead_59 : decode cX7_ahead 59 = .ok (.getfield 26, 3) := by decide +kernel
theorem dX7_ahead_62 : decode cX7_ahead 62 = .ok (.invokestatic 112, 3) := by decide +kernel
theorem dX7_ahead_65 : decode cX7_ahead 65 = .ok (.ireturn, 1) := by decide +kernel
set_option maxRecDepth 20000 in
theorem ggX7_leak_X7_begin : GoodIn wsX7_leak wsX7_begin := goodIn_r _ [6, 7, 1, 8, 9, 5, 10, 30, 31, 32, 33, 34, 35, 36, 37, 38, 39, 40, 41, 42, 43, 44] (by decide +kernel) (by decide +kernel)
set_option maxRecDepth 20000 in
theorem gX7_leak_X7_begin : GoodIn wsX7_leak (wsV RX7 139 RX7 yX7_begin wsX7_begin) := goodIn_app (goodIn_of _ (by decide +kernel)) ggX7_leak_X7_begin
set_option maxRecDepth 20000 in
theorem ggX7_leak_X7_yearIn : GoodIn wsX7_leak wsX7_yearIn := goodIn_r _ [14, 15, 16, 5, 17, 18, 19, 20, 21, 22, 23, 24, 25, 26, 27, 28, 29, 30, 31, 32, 33, 34, 35, 36, 37, 38, 39, 40, 41, 42, 43, 44] (by decide +kernel) (by decide +kernel)
set_option maxRecDepth 20000 in
theorem gX7_leak_X7_yearIn : GoodIn wsX7_leak (wsV RX7 125 RX7 yX7_yearIn wsX7_yearIn) := goodIn_app (goodIn_of _ (by decide +kernel)) ggX7_leak_X7_yearIn
theorem dX7_leak_0 : decode cX7_leak 0 = .ok (.aload_n 0, 1) := by decide +kernel
theorem dX7_leak_1 : decode cX7_leak 1 = .ok (.invokevirtual 139, 3) := by decide +kernel
theorem dX7_leak_4 : decode cX7_leak 4 = .ok (.iconst 1, 1) := by decide +kernel
theorem dX7_leak_5 : decode cX7_leak 5 = .ok (.istore_n 1, 1) := by decide +kernel
theorem dX7_leak_6 : decode cX7_leak 6 = .ok (.iload_n 1, 1) := by decide +kernel
theorem dX7_leak_7 : decode cX7_leak 7 = .ok (.bipush 40, 2) := by decide +kernel
theorem dX7_leak_9 : decode cX7_leak 9 = .ok (.if_icmp .gt 22, 3) := by decide +kernel
theorem dX7_leak_12 : decode cX7_leak 12 = .ok (.aload_n 0, 1) := by decide +kernel
theorem dX7_leak_13 : decode cX7_leak 13 = .ok (.aload_n 0, 1) := by decide +kernel
theorem dX7_leak_14 : decode cX7_leak 14 = .ok (.getfield 26, 3) := by decide +kernel
theorem dX7_leak_17 : decode cX7_leak 17 = .ok (.invokevirtual 125, 3) := by decide +kernel
theorem dX7_leak_20 : decode cX7_leak 20 = .ok (.ifCond .le 5, 3) := by decide +kernel
theorem dX7_leak_23 : decode cX7_leak 23 = .ok (.iload_n 1, 1) := by decide +kernel
theorem dX7_leak_24 : decode cX7_leak 24 = .ok (.ireturn, 1) := by decide +kernel
theorem dX7_leak_25 : decode cX7_leak 25 = .ok (.iinc 1 1, 3) := by decide +kernel
theorem dX7_leak_28 : decode cX7_leak 28 = .ok (.goto (-22), 3) := by decide +kernel
theorem dX7_leak_31 : decode cX7_leak 31 = .ok (.bipush (-4), 2) := by decide +kernel
theorem dX7_leak_33 : decode cX7_leak 33 = .ok (.ireturn, 1) := by decide +kernel
set_option maxRecDepth 20000 in
theorem ggX7_bare_X7_begin : GoodIn wsX7_bare wsX7_begin := goodIn_r _ [6, 7, 1, 8, 9, 5, 10, 30, 31, 32, 33, 34, 35, 36, 37, 38, 39, 40, 41, 42, 43, 44] (by decide +kernel) (by decide +kernel)
set_option maxRecDepth 20000 in
theorem gX7_bare_X7_begin : GoodIn wsX7_bare (wsV RX7 139 RX7 yX7_begin wsX7_begin) := goodIn_app (goodIn_of _ (by decide +kernel)) ggX7_bare_X7_begin
set_option maxRecDepth 20000 in
theorem ggX7_bare_X7_yearIn : GoodIn wsX7_bare wsX7_yearIn := goodIn_r _ [14, 15, 16, 5, 17, 18, 19, 20, 21, 22, 23, 24, 25, 26, 27, 28, 29, 30, 31, 32, 33, 34, 35, 36, 37, 38, 39, 40, 41, 42, 43, 44] (by decide +kernel) (by decide +kernel)
set_option maxRecDepth 20000 in
theorem gX7_bare_X7_yearIn : GoodIn wsX7_bare (wsV RX7 125 RX7 yX7_yearIn wsX7_yearIn) := goodIn_app (goodIn_of _ (by decide +kernel)) ggX7_bare_X7_yearIn
theorem dX7_bare_0 : decode cX7_bare 0 = .ok (.aload_n 0, 1) := by decide +kernel
theorem dX7_bare_1 : decode cX7_bare 1 = .ok (.invokevirtual 139, 3) := by decide +kernel
theorem dX7_bare_4 : decode cX7_bare 4 = .ok (.iconst 0, 1) := by decide +kernel
theorem dX7_bare_5 : decode cX7_bare 5 = .ok (.istore_n 1, 1) := by decide +kernel
theorem dX7_bare_6 : decode cX7_bare 6 = .ok (.iload_n 1, 1) := by decide +kernel
theorem dX7_bare_7 : decode cX7_bare 7 = .ok (.bipush 40, 2) := by decide +kernel
theorem dX7_bare_9 : decode cX7_bare 9 = .ok (.if_icmp .gt 29, 3) := by decide +kernel
theorem dX7_bare_12 : decode cX7_bare 12 = .ok (.aload_n 0, 1) := by decide +kernel
theorem dX7_bare_13 : decode cX7_bare 13 = .ok (.getfield 26, 3) := by decide +kernel
theorem dX7_bare_16 : decode cX7_bare 16 = .ok (.iconst 3, 1) := by decide +kernel
theorem dX7_bare_17 : decode cX7_bare 17 = .ok (.iaload, 1) := by decide +kernel
theorem dX7_bare_18 : decode cX7_bare 18 = .ok (.ifCond .ne 5, 3) := by decide +kernel
theorem dX7_bare_21 : decode cX7_bare 21 = .ok (.iload_n 1, 1) := by decide +kernel
theorem dX7_bare_22 : decode cX7_bare 22 = .ok (.ireturn, 1) := by decide +kernel
theorem dX7_bare_23 : decode cX7_bare 23 = .ok (.aload_n 0, 1) := by decide +kernel
theorem dX7_bare_24 : decode cX7_bare 24 = .ok (.aload_n 0, 1) := by decide +kernel
theorem dX7_bare_25 : decode cX7_bare 25 = .ok (.getfield 26, 3) := by decide +kernel
theorem dX7_bare_28 : decode cX7_bare 28 = .ok (.invokevirtual 125, 3) := by decide +kernel
theorem dX7_bare_31 : decode cX7_bare 31 = .ok (.pop, 1) := by decide +kernel
theorem dX7_bare_32 : decode cX7_bare 32 = .ok (.iinc 1 1, 3) := by decide +kernel
theorem dX7_bare_35 : decode cX7_bare 35 = .ok (.goto (-29), 3) := by decide +kernel
theorem dX7_bare_38 : decode cX7_bare 38 = .ok (.bipush (-4), 2) := by decide +kernel
theorem dX7_bare_40 : decode cX7_bare 40 = .ok (.ireturn, 1) := by decide +kernel
set_option maxRecDepth 20000 in
theorem ggX7_reach_X7_in : GoodIn wsX7_reach wsX7_in := goodIn_r _ [5] (by decide +kernel) (by decide +kernel)
set_option maxRecDepth 20000 in
theorem gX7_reach_X7_in : GoodIn wsX7_reach (va_wsS RX7 44 yX7_in wsX7_in) := goodIn_app (goodIn_of _ (by decide +kernel)) ggX7_reach_X7_in
set_option maxRecDepth 20000 in
theorem ggX7_reach_X7_rainIn : GoodIn wsX7_reach wsX7_rainIn := goodIn_r _ [8] (by decide +kernel) (by decide +kernel)
set_option maxRecDepth 20000 in
theorem gX7_reach_X7_rainIn : GoodIn wsX7_reach (va_wsS RX7 64 yX7_rainIn wsX7_rainIn) := goodIn_app (goodIn_of _ (by decide +kernel)) ggX7_reach_X7_rainIn
set_option maxRecDepth 20000 in
theorem ggX7_reach_X7_capOf : GoodIn wsX7_reach wsX7_capOf := goodIn_r _ [11] (by decide +kernel) (by decide +kernel)
set_option maxRecDepth 20000 in
theorem gX7_reach_X7_capOf : GoodIn wsX7_reach (va_wsS RX7 52 yX7_capOf wsX7_capOf) := goodIn_app (goodIn_of _ (by decide +kernel)) ggX7_reach_X7_capOf
theorem dX7_reach_0 : decode cX7_reach 0 = .ok (.iload_n 1, 1) := by decide +kernel
theorem dX7_reach_1 : decode cX7_reach 1 = .ok (.iconst (-1), 1) := by decide +kernel
theorem dX7_reach_2 : decode cX7_reach 2 = .ok (.bipush 99, 2) := by decide +kernel
theorem dX7_reach_4 : decode cX7_reach 4 = .ok (.invokestatic 44, 3) := by decide +kernel
theorem dX7_reach_7 : decode cX7_reach 7 = .ok (.ifCond .ne 5, 3) := by decide +kernel
theorem dX7_reach_10 : decode cX7_reach 10 = .ok (.iconst (-1), 1) := by decide +kernel
theorem dX7_reach_11 : decode cX7_reach 11 = .ok (.ireturn, 1) := by decide +kernel
theorem dX7_reach_12 : decode cX7_reach 12 = .ok (.iload_n 1, 1) := by decide +kernel
theorem dX7_reach_13 : decode cX7_reach 13 = .ok (.iconst (-1), 1) := by decide +kernel
theorem dX7_reach_14 : decode cX7_reach 14 = .ok (.if_icmp .ne 19, 3) := by decide +kernel
theorem dX7_reach_17 : decode cX7_reach 17 = .ok (.aload_n 0, 1) := by decide +kernel
theorem dX7_reach_18 : decode cX7_reach 18 = .ok (.getfield 23, 3) := by decide +kernel
theorem dX7_reach_21 : decode cX7_reach 21 = .ok (.aload_n 0, 1) := by decide +kernel
theorem dX7_reach_22 : decode cX7_reach 22 = .ok (.getfield 23, 3) := by decide +kernel
theorem dX7_reach_25 : decode cX7_reach 25 = .ok (.iconst 0, 1) := by decide +kernel
theorem dX7_reach_26 : decode cX7_reach 26 = .ok (.iaload, 1) := by decide +kernel
theorem dX7_reach_27 : decode cX7_reach 27 = .ok (.invokestatic 64, 3) := by decide +kernel
theorem dX7_reach_30 : decode cX7_reach 30 = .ok (.goto 4, 3) := by decide +kernel
theorem dX7_reach_33 : decode cX7_reach 33 = .ok (.iload_n 1, 1) := by decide +kernel
theorem dX7_reach_34 : decode cX7_reach 34 = .ok (.istore_n 2, 1) := by decide +kernel
theorem dX7_reach_35 : decode cX7_reach 35 = .ok (.iconst 0, 1) := by decide +kernel
theorem dX7_reach_36 : decode cX7_reach 36 = .ok (.istore_n 3, 1) := by decide +kernel
theorem dX7_reach_37 : decode cX7_reach 37 = .ok (.aload_n 0, 1) := by decide +kernel
theorem dX7_reach_38 : decode cX7_reach 38 = .ok (.getfield 23, 3) := by decide +kernel
theorem dX7_reach_41 : decode cX7_reach 41 = .ok (.iconst 3, 1) := by decide +kernel
theorem dX7_reach_42 : decode cX7_reach 42 = .ok (.iaload, 1) := by decide +kernel
theorem dX7_reach_43 : decode cX7_reach 43 = .ok (.iconst 1, 1) := by decide +kernel
theorem dX7_reach_44 : decode cX7_reach 44 = .ok (.isub, 1) := by decide +kernel
theorem dX7_reach_45 : decode cX7_reach 45 = .ok (.istore 4, 2) := by decide +kernel
theorem dX7_reach_47 : decode cX7_reach 47 = .ok (.iload 4, 2) := by decide +kernel
theorem dX7_reach_49 : decode cX7_reach 49 = .ok (.ifCond .lt 33, 3) := by decide +kernel
theorem dX7_reach_52 : decode cX7_reach 52 = .ok (.iload_n 3, 1) := by decide +kernel
theorem dX7_reach_53 : decode cX7_reach 53 = .ok (.iload_n 2, 1) := by decide +kernel
theorem dX7_reach_54 : decode cX7_reach 54 = .ok (.ifCond .le 7, 3) := by decide +kernel
theorem dX7_reach_57 : decode cX7_reach 57 = .ok (.iconst 1, 1) := by decide +kernel
theorem dX7_reach_58 : decode cX7_reach 58 = .ok (.goto 4, 3) := by decide +kernel
theorem dX7_reach_61 : decode cX7_reach 61 = .ok (.iconst 0, 1) := by decide +kernel
theorem dX7_reach_62 : decode cX7_reach 62 = .ok (.iadd, 1) := by decide +kernel
theorem dX7_reach_63 : decode cX7_reach 63 = .ok (.istore_n 3, 1) := by decide +kernel
theorem dX7_reach_64 : decode cX7_reach 64 = .ok (.iload_n 2, 1) := by decide +kernel
theorem dX7_reach_65 : decode cX7_reach 65 = .ok (.aload_n 0, 1) := by decide +kernel
theorem dX7_reach_66 : decode cX7_reach 66 = .ok (.getfield 23, 3) := by decide +kernel
theorem dX7_reach_69 : decode cX7_reach 69 = .ok (.iload 4, 2) := by decide +kernel
theorem dX7_reach_71 : decode cX7_reach 71 = .ok (.invokestatic 52, 3) := by decide +kernel
theorem dX7_reach_74 : decode cX7_reach 74 = .ok (.isub, 1) := by decide +kernel
theorem dX7_reach_75 : decode cX7_reach 75 = .ok (.istore_n 2, 1) := by decide +kernel
theorem dX7_reach_76 : decode cX7_reach 76 = .ok (.iinc 4 (-1), 3) := by decide +kernel
theorem dX7_reach_79 : decode cX7_reach 79 = .ok (.goto (-32), 3) := by decide +kernel
theorem dX7_reach_82 : decode cX7_reach 82 = .ok (.iload_n 3, 1) := by decide +kernel
theorem dX7_reach_83 : decode cX7_reach 83 = .ok (.ireturn, 1) := by decide +kernel
set_option maxRecDepth 20000 in
theorem ggX7_cover_X7_in : GoodIn wsX7_cover wsX7_in := goodIn_r _ [6] (by decide +kernel) (by decide +kernel)
set_option maxRecDepth 20000 in
theorem gX7_cover_X7_in : GoodIn wsX7_cover (va_wsS RX7 44 yX7_in wsX7_in) := goodIn_app (goodIn_of _ (by decide +kernel)) ggX7_cover_X7_in
set_option maxRecDepth 20000 in
theorem ggX7_cover_X7_begin : GoodIn wsX7_cover wsX7_begin := goodIn_r _ [10, 1, 2, 11, 12, 5, 13, 40, 41, 42, 43, 44, 45, 46, 47, 48, 49, 50, 51, 52, 53, 54] (by decide +kernel) (by decide +kernel)
set_option maxRecDepth 20000 in
theorem gX7_cover_X7_begin : GoodIn wsX7_cover (wsV RX7 139 RX7 yX7_begin wsX7_begin) := goodIn_app (goodIn_of _ (by decide +kernel)) ggX7_cover_X7_begin
set_option maxRecDepth 20000 in
theorem ggX7_cover_X7_addCoat : GoodIn wsX7_cover wsX7_addCoat := goodIn_r _ [16] (by decide +kernel) (by decide +kernel)
set_option maxRecDepth 20000 in
theorem gX7_cover_X7_addCoat : GoodIn wsX7_cover (va_wsS RX7 91 yX7_addCoat wsX7_addCoat) := goodIn_app (goodIn_of _ (by decide +kernel)) ggX7_cover_X7_addCoat
set_option maxRecDepth 20000 in
theorem ggX7_cover_X7_goOn : GoodIn wsX7_cover wsX7_goOn := goodIn_r _ [20, 2, 21, 22, 23, 5, 24, 25, 26, 27, 28, 29, 30, 31, 32, 33, 34, 35, 36, 37, 38, 39, 40, 41, 42, 43, 44, 45, 46, 47, 48, 49, 50, 51, 52, 53, 54] (by decide +kernel) (by decide +kernel)
set_option maxRecDepth 20000 in
theorem gX7_cover_X7_goOn : GoodIn wsX7_cover (wsV RX7 142 RX7 yX7_goOn wsX7_goOn) := goodIn_app (goodIn_of _ (by decide +kernel)) ggX7_cover_X7_goOn
theorem dX7_cover_0 : decode cX7_cover 0 = .ok (.iload_n 1, 1) := by decide +kernel
theorem dX7_cover_1 : decode cX7_cover 1 = .ok (.iconst 0, 1) := by decide +kernel
theorem dX7_cover_2 : decode cX7_cover 2 = .ok (.iconst 4, 1) := by decide +kernel
theorem dX7_cover_3 : decode cX7_cover 3 = .ok (.invokestatic 44, 3) := by decide +kernel
theorem dX7_cover_6 : decode cX7_cover 6 = .ok (.ifCond .eq 13, 3) := by decide +kernel
theorem dX7_cover_9 : decode cX7_cover 9 = .ok (.iload_n 2, 1) := by decide +kernel
theorem dX7_cover_10 : decode cX7_cover 10 = .ok (.iconst 1, 1) := by decide +kernel
theorem dX7_cover_11 : decode cX7_cover 11 = .ok (.bipush 20, 2) := by decide +kernel
theorem dX7_cover_13 : decode cX7_cover 13 = .ok (.invokestatic 44, 3) := by decide +kernel
theorem dX7_cover_16 : decode cX7_cover 16 = .ok (.ifCond .ne 5, 3) := by decide +kernel
theorem dX7_cover_19 : decode cX7_cover 19 = .ok (.iconst (-1), 1) := by decide +kernel
theorem dX7_cover_20 : decode cX7_cover 20 = .ok (.ireturn, 1) := by decide +kernel
theorem dX7_cover_21 : decode cX7_cover 21 = .ok (.aload_n 0, 1) := by decide +kernel
theorem dX7_cover_22 : decode cX7_cover 22 = .ok (.getfield 23, 3) := by decide +kernel
theorem dX7_cover_25 : decode cX7_cover 25 = .ok (.iconst 3, 1) := by decide +kernel
theorem dX7_cover_26 : decode cX7_cover 26 = .ok (.iaload, 1) := by decide +kernel
theorem dX7_cover_27 : decode cX7_cover 27 = .ok (.bipush 10, 2) := by decide +kernel
theorem dX7_cover_29 : decode cX7_cover 29 = .ok (.if_icmp .ne 6, 3) := by decide +kernel
theorem dX7_cover_32 : decode cX7_cover 32 = .ok (.bipush (-3), 2) := by decide +kernel
theorem dX7_cover_34 : decode cX7_cover 34 = .ok (.ireturn, 1) := by decide +kernel
theorem dX7_cover_35 : decode cX7_cover 35 = .ok (.iconst 1, 1) := by decide +kernel
theorem dX7_cover_36 : decode cX7_cover 36 = .ok (.istore_n 3, 1) := by decide +kernel
theorem dX7_cover_37 : decode cX7_cover 37 = .ok (.iload_n 3, 1) := by decide +kernel
theorem dX7_cover_38 : decode cX7_cover 38 = .ok (.bipush 20, 2) := by decide +kernel
theorem dX7_cover_40 : decode cX7_cover 40 = .ok (.if_icmp .gt 34, 3) := by decide +kernel
theorem dX7_cover_43 : decode cX7_cover 43 = .ok (.aload_n 0, 1) := by decide +kernel
theorem dX7_cover_44 : decode cX7_cover 44 = .ok (.invokevirtual 139, 3) := by decide +kernel
theorem dX7_cover_47 : decode cX7_cover 47 = .ok (.aload_n 0, 1) := by decide +kernel
theorem dX7_cover_48 : decode cX7_cover 48 = .ok (.getfield 26, 3) := by decide +kernel
theorem dX7_cover_51 : decode cX7_cover 51 = .ok (.iload_n 1, 1) := by decide +kernel
theorem dX7_cover_52 : decode cX7_cover 52 = .ok (.iload_n 3, 1) := by decide +kernel
theorem dX7_cover_53 : decode cX7_cover 53 = .ok (.iconst 0, 1) := by decide +kernel
theorem dX7_cover_54 : decode cX7_cover 54 = .ok (.invokestatic 91, 3) := by decide +kernel
theorem dX7_cover_57 : decode cX7_cover 57 = .ok (.pop, 1) := by decide +kernel
theorem dX7_cover_58 : decode cX7_cover 58 = .ok (.aload_n 0, 1) := by decide +kernel
theorem dX7_cover_59 : decode cX7_cover 59 = .ok (.iload_n 2, 1) := by decide +kernel
theorem dX7_cover_60 : decode cX7_cover 60 = .ok (.invokevirtual 142, 3) := by decide +kernel
theorem dX7_cover_63 : decode cX7_cover 63 = .ok (.ifCond .ne 5, 3) := by decide +kernel
theorem dX7_cover_66 : decode cX7_cover 66 = .ok (.iload_n 3, 1) := by decide +kernel
theorem dX7_cover_67 : decode cX7_cover 67 = .ok (.ireturn, 1) := by decide +kernel
theorem dX7_cover_68 : decode cX7_cover 68 = .ok (.iinc 3 1, 3) := by decide +kernel
theorem dX7_cover_71 : decode cX7_cover 71 = .ok (.goto (-34), 3) := by decide +kernel
theorem dX7_cover_74 : decode cX7_cover 74 = .ok (.bipush (-4), 2) := by decide +kernel
theorem dX7_cover_76 : decode cX7_cover 76 = .ok (.ireturn, 1) := by decide +kernel
theorem dX7_takeOut_0 : decode cX7_takeOut 0 = .ok (.iload_n 1, 1) := by decide +kernel
theorem dX7_takeOut_1 : decode cX7_takeOut 1 = .ok (.iconst 1, 1) := by decide +kernel
theorem dX7_takeOut_2 : decode cX7_takeOut 2 = .ok (.iadd, 1) := by decide +kernel
theorem dX7_takeOut_3 : decode cX7_takeOut 3 = .ok (.istore_n 2, 1) := by decide +kernel
theorem dX7_takeOut_4 : decode cX7_takeOut 4 = .ok (.iload_n 2, 1) := by decide +kernel
theorem dX7_takeOut_5 : decode cX7_takeOut 5 = .ok (.aload_n 0, 1) := by decide +kernel
theorem dX7_takeOut_6 : decode cX7_takeOut 6 = .ok (.getfield 26, 3) := by decide +kernel
theorem dX7_takeOut_9 : decode cX7_takeOut 9 = .ok (.iconst 3, 1) := by decide +kernel
theorem dX7_takeOut_10 : decode cX7_takeOut 10 = .ok (.iaload, 1) := by decide +kernel
theorem dX7_takeOut_11 : decode cX7_takeOut 11 = .ok (.if_icmp .ge 67, 3) := by decide +kernel
theorem dX7_takeOut_14 : decode cX7_takeOut 14 = .ok (.aload_n 0, 1) := by decide +kernel
theorem dX7_takeOut_15 : decode cX7_takeOut 15 = .ok (.getfield 26, 3) := by decide +kernel
theorem dX7_takeOut_18 : decode cX7_takeOut 18 = .ok (.iconst 4, 1) := by decide +kernel
theorem dX7_takeOut_19 : decode cX7_takeOut 19 = .ok (.iload_n 2, 1) := by decide +kernel
theorem dX7_takeOut_20 : decode cX7_takeOut 20 = .ok (.iadd, 1) := by decide +kernel
theorem dX7_takeOut_21 : decode cX7_takeOut 21 = .ok (.iconst 1, 1) := by decide +kernel
theorem dX7_takeOut_22 : decode cX7_takeOut 22 = .ok (.isub, 1) := by decide +kernel
theorem dX7_takeOut_23 : decode cX7_takeOut 23 = .ok (.aload_n 0, 1) := by decide +kernel
theorem dX7_takeOut_24 : decode cX7_takeOut 24 = .ok (.getfield 26, 3) := by decide +kernel
theorem dX7_takeOut_27 : decode cX7_takeOut 27 = .ok (.iconst 4, 1) := by decide +kernel
theorem dX7_takeOut_28 : decode cX7_takeOut 28 = .ok (.iload_n 2, 1) := by decide +kernel
theorem dX7_takeOut_29 : decode cX7_takeOut 29 = .ok (.iadd, 1) := by decide +kernel
theorem dX7_takeOut_30 : decode cX7_takeOut 30 = .ok (.iaload, 1) := by decide +kernel
theorem dX7_takeOut_31 : decode cX7_takeOut 31 = .ok (.iastore, 1) := by decide +kernel
theorem dX7_takeOut_32 : decode cX7_takeOut 32 = .ok (.aload_n 0, 1) := by decide +kernel
theorem dX7_takeOut_33 : decode cX7_takeOut 33 = .ok (.getfield 26, 3) := by decide +kernel
theorem dX7_takeOut_36 : decode cX7_takeOut 36 = .ok (.bipush 14, 2) := by decide +kernel
theorem dX7_takeOut_38 : decode cX7_takeOut 38 = .ok (.iload_n 2, 1) := by decide +kernel
theorem dX7_takeOut_39 : decode cX7_takeOut 39 = .ok (.iadd, 1) := by decide +kernel
theorem dX7_takeOut_40 : decode cX7_takeOut 40 = .ok (.iconst 1, 1) := by decide +kernel
theorem dX7_takeOut_41 : decode cX7_takeOut 41 = .ok (.isub, 1) := by decide +kernel
theorem dX7_takeOut_42 : decode cX7_takeOut 42 = .ok (.aload_n 0, 1) := by decide +kernel
theorem dX7_takeOut_43 : decode cX7_takeOut 43 = .ok (.getfield 26, 3) := by decide +kernel
theorem dX7_takeOut_46 : decode cX7_takeOut 46 = .ok (.bipush 14, 2) := by decide +kernel
theorem dX7_takeOut_48 : decode cX7_takeOut 48 = .ok (.iload_n 2, 1) := by decide +kernel
theorem dX7_takeOut_49 : decode cX7_takeOut 49 = .ok (.iadd, 1) := by decide +kernel
theorem dX7_takeOut_50 : decode cX7_takeOut 50 = .ok (.iaload, 1) := by decide +kernel
theorem dX7_takeOut_51 : decode cX7_takeOut 51 = .ok (.iastore, 1) := by decide +kernel
theorem dX7_takeOut_52 : decode cX7_takeOut 52 = .ok (.aload_n 0, 1) := by decide +kernel
theorem dX7_takeOut_53 : decode cX7_takeOut 53 = .ok (.getfield 26, 3) := by decide +kernel
theorem dX7_takeOut_56 : decode cX7_takeOut 56 = .ok (.bipush 24, 2) := by decide +kernel
theorem dX7_takeOut_58 : decode cX7_takeOut 58 = .ok (.iload_n 2, 1) := by decide +kernel
theorem dX7_takeOut_59 : decode cX7_takeOut 59 = .ok (.iadd, 1) := by decide +kernel
theorem dX7_takeOut_60 : decode cX7_takeOut 60 = .ok (.iconst 1, 1) := by decide +kernel
theorem dX7_takeOut_61 : decode cX7_takeOut 61 = .ok (.isub, 1) := by decide +kernel
theorem dX7_takeOut_62 : decode cX7_takeOut 62 = .ok (.aload_n 0, 1) := by decide +kernel
theorem dX7_takeOut_63 : decode cX7_takeOut 63 = .ok (.getfield 26, 3) := by decide +kernel
theorem dX7_takeOut_66 : decode cX7_takeOut 66 = .ok (.bipush 24, 2) := by decide +kernel
theorem dX7_takeOut_68 : decode cX7_takeOut 68 = .ok (.iload_n 2, 1) := by decide +kernel
theorem dX7_takeOut_69 : decode cX7_takeOut 69 = .ok (.iadd, 1) := by decide +kernel
theorem dX7_takeOut_70 : decode cX7_takeOut 70 = .ok (.iaload, 1) := by decide +kernel
theorem dX7_takeOut_71 : decode cX7_takeOut 71 = .ok (.iastore, 1) := by decide +kernel
theorem dX7_takeOut_72 : decode cX7_takeOut 72 = .ok (.iinc 2 1, 3) := by decide +kernel
theorem dX7_takeOut_75 : decode cX7_takeOut 75 = .ok (.goto (-71), 3) := by decide +kernel
theorem dX7_takeOut_78 : decode cX7_takeOut 78 = .ok (.aload_n 0, 1) := by decide +kernel
theorem dX7_takeOut_79 : decode cX7_takeOut 79 = .ok (.getfield 26, 3) := by decide +kernel
theorem dX7_takeOut_82 : decode cX7_takeOut 82 = .ok (.iconst 3, 1) := by decide +kernel
theorem dX7_takeOut_83 : decode cX7_takeOut 83 = .ok (.dup2, 1) := by decide +kernel
theorem dX7_takeOut_84 : decode cX7_takeOut 84 = .ok (.iaload, 1) := by decide +kernel
theorem dX7_takeOut_85 : decode cX7_takeOut 85 = .ok (.iconst 1, 1) := by decide +kernel
theorem dX7_takeOut_86 : decode cX7_takeOut 86 = .ok (.isub, 1) := by decide +kernel
theorem dX7_takeOut_87 : decode cX7_takeOut 87 = .ok (.iastore, 1) := by decide +kernel
theorem dX7_takeOut_88 : decode cX7_takeOut 88 = .ok (.return_, 1) := by decide +kernel
set_option maxRecDepth 20000 in
theorem ggX7_relief_X7_in : GoodIn wsX7_relief wsX7_in := goodIn_r _ [6] (by decide +kernel) (by decide +kernel)
set_option maxRecDepth 20000 in
theorem gX7_relief_X7_in : GoodIn wsX7_relief (va_wsS RX7 44 yX7_in wsX7_in) := goodIn_app (goodIn_of _ (by decide +kernel)) ggX7_relief_X7_in
set_option maxRecDepth 20000 in
theorem ggX7_relief_X7_begin : GoodIn wsX7_relief wsX7_begin := goodIn_r _ [10, 1, 2, 11, 12, 5, 13, 47, 48, 49, 50, 51, 52, 53, 54, 55, 56, 57, 58, 59, 60, 61] (by decide +kernel) (by decide +kernel)
set_option maxRecDepth 20000 in
theorem gX7_relief_X7_begin : GoodIn wsX7_relief (wsV RX7 139 RX7 yX7_begin wsX7_begin) := goodIn_app (goodIn_of _ (by decide +kernel)) ggX7_relief_X7_begin
set_option maxRecDepth 20000 in
theorem ggX7_relief_X7_takeOut : GoodIn wsX7_relief wsX7_takeOut := goodIn_r _ [17, 2, 47, 48, 49, 50, 51, 52, 53, 54, 55, 56, 57, 58, 59, 60, 61] (by decide +kernel) (by decide +kernel)
set_option maxRecDepth 20000 in
theorem gX7_relief_X7_takeOut : GoodIn wsX7_relief (wsV RX7 145 RX7 yX7_takeOut wsX7_takeOut) := goodIn_app (goodIn_of _ (by decide +kernel)) ggX7_relief_X7_takeOut
set_option maxRecDepth 20000 in
theorem ggX7_relief_X7_heavy : GoodIn wsX7_relief wsX7_heavy := goodIn_r _ [20, 21, 22, 5, 23] (by decide +kernel) (by decide +kernel)
set_option maxRecDepth 20000 in
theorem gX7_relief_X7_heavy : GoodIn wsX7_relief (va_wsS RX7 112 yX7_heavy wsX7_heavy) := goodIn_app (goodIn_of _ (by decide +kernel)) ggX7_relief_X7_heavy
set_option maxRecDepth 20000 in
theorem ggX7_relief_X7_goOn : GoodIn wsX7_relief wsX7_goOn := goodIn_r _ [27, 2, 28, 29, 30, 5, 31, 32, 33, 34, 35, 36, 37, 38, 39, 40, 41, 42, 43, 44, 45, 46, 47, 48, 49, 50, 51, 52, 53, 54, 55, 56, 57, 58, 59, 60, 61] (by decide +kernel) (by decide +kernel)
set_option maxRecDepth 20000 in
theorem gX7_relief_X7_goOn : GoodIn wsX7_relief (wsV RX7 142 RX7 yX7_goOn wsX7_goOn) := goodIn_app (goodIn_of _ (by decide +kernel)) ggX7_relief_X7_goOn
theorem dX7_relief_0 : decode cX7_relief 0 = .ok (.iload_n 1, 1) := by decide +kernel
theorem dX7_relief_1 : decode cX7_relief 1 = .ok (.iconst 1, 1) := by decide +kernel
theorem dX7_relief_2 : decode cX7_relief 2 = .ok (.bipush 20, 2) := by decide +kernel
theorem dX7_relief_4 : decode cX7_relief 4 = .ok (.invokestatic 44, 3) := by decide +kernel
theorem dX7_relief_7 : decode cX7_relief 7 = .ok (.ifCond .eq 12, 3) := by decide +kernel
theorem dX7_relief_10 : decode cX7_relief 10 = .ok (.iload_n 2, 1) := by decide +kernel
theorem dX7_relief_11 : decode cX7_relief 11 = .ok (.iconst 0, 1) := by decide +kernel
theorem dX7_relief_12 : decode cX7_relief 12 = .ok (.iconst 1, 1) := by decide +kernel
theorem dX7_relief_13 : decode cX7_relief 13 = .ok (.invokestatic 44, 3) := by decide +kernel
theorem dX7_relief_16 : decode cX7_relief 16 = .ok (.ifCond .ne 5, 3) := by decide +kernel
theorem dX7_relief_19 : decode cX7_relief 19 = .ok (.iconst (-1), 1) := by decide +kernel
theorem dX7_relief_20 : decode cX7_relief 20 = .ok (.ireturn, 1) := by decide +kernel
theorem dX7_relief_21 : decode cX7_relief 21 = .ok (.bipush (-4), 2) := by decide +kernel
theorem dX7_relief_23 : decode cX7_relief 23 = .ok (.istore_n 3, 1) := by decide +kernel
theorem dX7_relief_24 : decode cX7_relief 24 = .ok (.bipush (-4), 2) := by decide +kernel
theorem dX7_relief_26 : decode cX7_relief 26 = .ok (.istore 4, 2) := by decide +kernel
theorem dX7_relief_28 : decode cX7_relief 28 = .ok (.iconst 0, 1) := by decide +kernel
theorem dX7_relief_29 : decode cX7_relief 29 = .ok (.istore 5, 2) := by decide +kernel
theorem dX7_relief_31 : decode cX7_relief 31 = .ok (.iload 5, 2) := by decide +kernel
theorem dX7_relief_33 : decode cX7_relief 33 = .ok (.aload_n 0, 1) := by decide +kernel
theorem dX7_relief_34 : decode cX7_relief 34 = .ok (.getfield 23, 3) := by decide +kernel
theorem dX7_relief_37 : decode cX7_relief 37 = .ok (.iconst 3, 1) := by decide +kernel
theorem dX7_relief_38 : decode cX7_relief 38 = .ok (.iaload, 1) := by decide +kernel
theorem dX7_relief_39 : decode cX7_relief 39 = .ok (.if_icmp .ge 63, 3) := by decide +kernel
theorem dX7_relief_42 : decode cX7_relief 42 = .ok (.aload_n 0, 1) := by decide +kernel
theorem dX7_relief_43 : decode cX7_relief 43 = .ok (.invokevirtual 139, 3) := by decide +kernel
theorem dX7_relief_46 : decode cX7_relief 46 = .ok (.aload_n 0, 1) := by decide +kernel
theorem dX7_relief_47 : decode cX7_relief 47 = .ok (.iload 5, 2) := by decide +kernel
theorem dX7_relief_49 : decode cX7_relief 49 = .ok (.invokevirtual 145, 3) := by decide +kernel
theorem dX7_relief_52 : decode cX7_relief 52 = .ok (.aload_n 0, 1) := by decide +kernel
theorem dX7_relief_53 : decode cX7_relief 53 = .ok (.getfield 26, 3) := by decide +kernel
theorem dX7_relief_56 : decode cX7_relief 56 = .ok (.invokestatic 112, 3) := by decide +kernel
theorem dX7_relief_59 : decode cX7_relief 59 = .ok (.aload_n 0, 1) := by decide +kernel
theorem dX7_relief_60 : decode cX7_relief 60 = .ok (.getfield 26, 3) := by decide +kernel
theorem dX7_relief_63 : decode cX7_relief 63 = .ok (.bipush 44, 2) := by decide +kernel
theorem dX7_relief_65 : decode cX7_relief 65 = .ok (.iaload, 1) := by decide +kernel
theorem dX7_relief_66 : decode cX7_relief 66 = .ok (.if_icmp .gt 30, 3) := by decide +kernel
theorem dX7_relief_69 : decode cX7_relief 69 = .ok (.aload_n 0, 1) := by decide +kernel
theorem dX7_relief_70 : decode cX7_relief 70 = .ok (.iload_n 1, 1) := by decide +kernel
theorem dX7_relief_71 : decode cX7_relief 71 = .ok (.invokevirtual 142, 3) := by decide +kernel
theorem dX7_relief_74 : decode cX7_relief 74 = .ok (.istore 6, 2) := by decide +kernel
theorem dX7_relief_76 : decode cX7_relief 76 = .ok (.iload_n 3, 1) := by decide +kernel
theorem dX7_relief_77 : decode cX7_relief 77 = .ok (.bipush (-4), 2) := by decide +kernel
theorem dX7_relief_79 : decode cX7_relief 79 = .ok (.if_icmp .eq 10, 3) := by decide +kernel
theorem dX7_relief_82 : decode cX7_relief 82 = .ok (.iload 6, 2) := by decide +kernel
theorem dX7_relief_84 : decode cX7_relief 84 = .ok (.iload 4, 2) := by decide +kernel
theorem dX7_relief_86 : decode cX7_relief 86 = .ok (.if_icmp .ge 10, 3) := by decide +kernel
theorem dX7_relief_89 : decode cX7_relief 89 = .ok (.iload 5, 2) := by decide +kernel
theorem dX7_relief_91 : decode cX7_relief 91 = .ok (.istore_n 3, 1) := by decide +kernel
theorem dX7_relief_92 : decode cX7_relief 92 = .ok (.iload 6, 2) := by decide +kernel
theorem dX7_relief_94 : decode cX7_relief 94 = .ok (.istore 4, 2) := by decide +kernel
theorem dX7_relief_96 : decode cX7_relief 96 = .ok (.iinc 5 1, 3) := by decide +kernel
theorem dX7_relief_99 : decode cX7_relief 99 = .ok (.goto (-68), 3) := by decide +kernel
theorem dX7_relief_102 : decode cX7_relief 102 = .ok (.iload_n 2, 1) := by decide +kernel
theorem dX7_relief_103 : decode cX7_relief 103 = .ok (.ifCond .ne 7, 3) := by decide +kernel
theorem dX7_relief_106 : decode cX7_relief 106 = .ok (.iload_n 3, 1) := by decide +kernel
theorem dX7_relief_107 : decode cX7_relief 107 = .ok (.goto 5, 3) := by decide +kernel
theorem dX7_relief_110 : decode cX7_relief 110 = .ok (.iload 4, 2) := by decide +kernel
theorem dX7_relief_112 : decode cX7_relief 112 = .ok (.ireturn, 1) := by decide +kernel
theorem dX7_isNextParts_0 : decode cX7_isNextParts 0 = .ok (.aload_n 0, 1) := by decide +kernel
theorem dX7_isNextParts_1 : decode cX7_isNextParts 1 = .ok (.getfield 23, 3) := by decide +kernel
theorem dX7_isNextParts_4 : decode cX7_isNextParts 4 = .ok (.iconst 3, 1) := by decide +kernel
theorem dX7_isNextParts_5 : decode cX7_isNextParts 5 = .ok (.iaload, 1) := by decide +kernel
theorem dX7_isNextParts_6 : decode cX7_isNextParts 6 = .ok (.iconst 1, 1) := by decide +kernel
theorem dX7_isNextParts_7 : decode cX7_isNextParts 7 = .ok (.isub, 1) := by decide +kernel
theorem dX7_isNextParts_8 : decode cX7_isNextParts 8 = .ok (.istore_n 1, 1) := by decide +kernel
theorem dX7_isNextParts_9 : decode cX7_isNextParts 9 = .ok (.iload_n 1, 1) := by decide +kernel
theorem dX7_isNextParts_10 : decode cX7_isNextParts 10 = .ok (.istore_n 2, 1) := by decide +kernel
theorem dX7_isNextParts_11 : decode cX7_isNextParts 11 = .ok (.iload_n 2, 1) := by decide +kernel
theorem dX7_isNextParts_12 : decode cX7_isNextParts 12 = .ok (.ifCond .le 18, 3) := by decide +kernel
theorem dX7_isNextParts_15 : decode cX7_isNextParts 15 = .ok (.aload_n 0, 1) := by decide +kernel
theorem dX7_isNextParts_16 : decode cX7_isNextParts 16 = .ok (.getfield 38, 3) := by decide +kernel
theorem dX7_isNextParts_19 : decode cX7_isNextParts 19 = .ok (.iload_n 2, 1) := by decide +kernel
theorem dX7_isNextParts_20 : decode cX7_isNextParts 20 = .ok (.iaload, 1) := by decide +kernel
theorem dX7_isNextParts_21 : decode cX7_isNextParts 21 = .ok (.ifCond .ne 9, 3) := by decide +kernel
theorem dX7_isNextParts_24 : decode cX7_isNextParts 24 = .ok (.iinc 2 (-1), 3) := by decide +kernel
theorem dX7_isNextParts_27 : decode cX7_isNextParts 27 = .ok (.goto (-16), 3) := by decide +kernel
theorem dX7_isNextParts_30 : decode cX7_isNextParts 30 = .ok (.iload_n 2, 1) := by decide +kernel
theorem dX7_isNextParts_31 : decode cX7_isNextParts 31 = .ok (.ifCond .gt 5, 3) := by decide +kernel
theorem dX7_isNextParts_34 : decode cX7_isNextParts 34 = .ok (.iconst 0, 1) := by decide +kernel
theorem dX7_isNextParts_35 : decode cX7_isNextParts 35 = .ok (.ireturn, 1) := by decide +kernel
theorem dX7_isNextParts_36 : decode cX7_isNextParts 36 = .ok (.aload_n 0, 1) := by decide +kernel
theorem dX7_isNextParts_37 : decode cX7_isNextParts 37 = .ok (.getfield 38, 3) := by decide +kernel
theorem dX7_isNextParts_40 : decode cX7_isNextParts 40 = .ok (.iload_n 2, 1) := by decide +kernel
theorem dX7_isNextParts_41 : decode cX7_isNextParts 41 = .ok (.iaload, 1) := by decide +kernel
theorem dX7_isNextParts_42 : decode cX7_isNextParts 42 = .ok (.istore_n 3, 1) := by decide +kernel
theorem dX7_isNextParts_43 : decode cX7_isNextParts 43 = .ok (.aload_n 0, 1) := by decide +kernel
theorem dX7_isNextParts_44 : decode cX7_isNextParts 44 = .ok (.getfield 38, 3) := by decide +kernel
theorem dX7_isNextParts_47 : decode cX7_isNextParts 47 = .ok (.iload_n 2, 1) := by decide +kernel
theorem dX7_isNextParts_48 : decode cX7_isNextParts 48 = .ok (.iconst 0, 1) := by decide +kernel
theorem dX7_isNextParts_49 : decode cX7_isNextParts 49 = .ok (.iastore, 1) := by decide +kernel
theorem dX7_isNextParts_50 : decode cX7_isNextParts 50 = .ok (.aload_n 0, 1) := by decide +kernel
theorem dX7_isNextParts_51 : decode cX7_isNextParts 51 = .ok (.getfield 38, 3) := by decide +kernel
theorem dX7_isNextParts_54 : decode cX7_isNextParts 54 = .ok (.iload_n 2, 1) := by decide +kernel
theorem dX7_isNextParts_55 : decode cX7_isNextParts 55 = .ok (.iconst 1, 1) := by decide +kernel
theorem dX7_isNextParts_56 : decode cX7_isNextParts 56 = .ok (.isub, 1) := by decide +kernel
theorem dX7_isNextParts_57 : decode cX7_isNextParts 57 = .ok (.dup2, 1) := by decide +kernel
theorem dX7_isNextParts_58 : decode cX7_isNextParts 58 = .ok (.iaload, 1) := by decide +kernel
theorem dX7_isNextParts_59 : decode cX7_isNextParts 59 = .ok (.iconst 1, 1) := by decide +kernel
theorem dX7_isNextParts_60 : decode cX7_isNextParts 60 = .ok (.iadd, 1) := by decide +kernel
theorem dX7_isNextParts_61 : decode cX7_isNextParts 61 = .ok (.iastore, 1) := by decide +kernel
theorem dX7_isNextParts_62 : decode cX7_isNextParts 62 = .ok (.aload_n 0, 1) := by decide +kernel
theorem dX7_isNextParts_63 : decode cX7_isNextParts 63 = .ok (.getfield 38, 3) := by decide +kernel
theorem dX7_isNextParts_66 : decode cX7_isNextParts 66 = .ok (.iload_n 1, 1) := by decide +kernel
theorem dX7_isNextParts_67 : decode cX7_isNextParts 67 = .ok (.iload_n 3, 1) := by decide +kernel
theorem dX7_isNextParts_68 : decode cX7_isNextParts 68 = .ok (.iconst 1, 1) := by decide +kernel
theorem dX7_isNextParts_69 : decode cX7_isNextParts 69 = .ok (.isub, 1) := by decide +kernel
theorem dX7_isNextParts_70 : decode cX7_isNextParts 70 = .ok (.iastore, 1) := by decide +kernel
theorem dX7_isNextParts_71 : decode cX7_isNextParts 71 = .ok (.iconst 1, 1) := by decide +kernel
theorem dX7_isNextParts_72 : decode cX7_isNextParts 72 = .ok (.ireturn, 1) := by decide +kernel
set_option maxRecDepth 20000 in
theorem ggX7_share_X7_in : GoodIn wsX7_share wsX7_in := goodIn_r _ [8] (by decide +kernel) (by decide +kernel)
set_option maxRecDepth 20000 in
theorem gX7_share_X7_in : GoodIn wsX7_share (va_wsS RX7 44 yX7_in wsX7_in) := goodIn_app (goodIn_of _ (by decide +kernel)) ggX7_share_X7_in
set_option maxRecDepth 20000 in
theorem ggX7_share_X7_begin : GoodIn wsX7_share wsX7_begin := goodIn_r _ [12, 1, 3, 13, 14, 7, 15, 53, 54, 55, 56, 57, 58, 59, 60, 61, 62, 63, 64, 65, 66, 67] (by decide +kernel) (by decide +kernel)
set_option maxRecDepth 20000 in
theorem gX7_share_X7_begin : GoodIn wsX7_share (wsV RX7 139 RX7 yX7_begin wsX7_begin) := goodIn_app (goodIn_of _ (by decide +kernel)) ggX7_share_X7_begin
set_option maxRecDepth 20000 in
theorem ggX7_share_X7_goOn : GoodIn wsX7_share wsX7_goOn := goodIn_r _ [19, 3, 20, 21, 22, 7, 23, 24, 25, 26, 27, 28, 29, 30, 31, 32, 33, 34, 35, 36, 37, 38, 53, 54, 55, 56, 57, 58, 59, 60, 61, 62, 63, 64, 65, 66, 67] (by decide +kernel) (by decide +kernel)
set_option maxRecDepth 20000 in
theorem gX7_share_X7_goOn : GoodIn wsX7_share (wsV RX7 142 RX7 yX7_goOn wsX7_goOn) := goodIn_app (goodIn_of _ (by decide +kernel)) ggX7_share_X7_goOn
set_option maxRecDepth 20000 in
theorem ggX7_share_X7_heavy : GoodIn wsX7_share wsX7_heavy := goodIn_r _ [41, 42, 43, 7, 44] (by decide +kernel) (by decide +kernel)
set_option maxRecDepth 20000 in
theorem gX7_share_X7_heavy : GoodIn wsX7_share (va_wsS RX7 112 yX7_heavy wsX7_heavy) := goodIn_app (goodIn_of _ (by decide +kernel)) ggX7_share_X7_heavy
set_option maxRecDepth 20000 in
theorem ggX7_share_X7_bring : GoodIn wsX7_share wsX7_bring := goodIn_r _ [15] (by decide +kernel) (by decide +kernel)
set_option maxRecDepth 20000 in
theorem gX7_share_X7_bring : GoodIn wsX7_share (va_wsS RX7 105 yX7_bring wsX7_bring) := goodIn_app (goodIn_of _ (by decide +kernel)) ggX7_share_X7_bring
set_option maxRecDepth 20000 in
theorem ggX7_share_X7_isNextParts : GoodIn wsX7_share wsX7_isNextParts := goodIn_r _ [48, 1, 2, 53, 54, 55, 56, 57, 58, 59, 60, 61, 62, 63, 64, 65, 66, 67] (by decide +kernel) (by decide +kernel)
set_option maxRecDepth 20000 in
theorem gX7_share_X7_isNextParts : GoodIn wsX7_share (wsV RX7 149 RX7 yX7_isNextParts wsX7_isNextParts) := goodIn_app (goodIn_of _ (by decide +kernel)) ggX7_share_X7_isNextParts
set_option maxRecDepth 20000 in
theorem ggX7_share_X7_isCoat : GoodIn wsX7_share wsX7_isCoat := goodIn_r _ [52, 1, 5, 6, 7, 8, 53, 54, 55, 56, 57, 58, 59, 60, 61, 62, 63, 64, 65, 66, 67] (by decide +kernel) (by decide +kernel)
set_option maxRecDepth 20000 in
theorem gX7_share_X7_isCoat : GoodIn wsX7_share (wsV RX7 56 RX7 yX7_isCoat wsX7_isCoat) := goodIn_app (goodIn_of _ (by decide +kernel)) ggX7_share_X7_isCoat
theorem dX7_share_0 : decode cX7_share 0 = .ok (.iload_n 1, 1) := by decide +kernel
theorem dX7_share_1 : decode cX7_share 1 = .ok (.iconst 0, 1) := by decide +kernel
theorem dX7_share_2 : decode cX7_share 2 = .ok (.bipush 6, 2) := by decide +kernel
theorem dX7_share_4 : decode cX7_share 4 = .ok (.invokestatic 44, 3) := by decide +kernel
theorem dX7_share_7 : decode cX7_share 7 = .ok (.ifCond .eq 19, 3) := by decide +kernel
theorem dX7_share_10 : decode cX7_share 10 = .ok (.iload_n 2, 1) := by decide +kernel
theorem dX7_share_11 : decode cX7_share 11 = .ok (.iconst 1, 1) := by decide +kernel
theorem dX7_share_12 : decode cX7_share 12 = .ok (.bipush 20, 2) := by decide +kernel
theorem dX7_share_14 : decode cX7_share 14 = .ok (.invokestatic 44, 3) := by decide +kernel
theorem dX7_share_17 : decode cX7_share 17 = .ok (.ifCond .eq 9, 3) := by decide +kernel
theorem dX7_share_20 : decode cX7_share 20 = .ok (.iload_n 3, 1) := by decide +kernel
theorem dX7_share_21 : decode cX7_share 21 = .ok (.bipush (-2), 2) := by decide +kernel
theorem dX7_share_23 : decode cX7_share 23 = .ok (.if_icmp .ge 5, 3) := by decide +kernel
theorem dX7_share_26 : decode cX7_share 26 = .ok (.iconst (-1), 1) := by decide +kernel
theorem dX7_share_27 : decode cX7_share 27 = .ok (.ireturn, 1) := by decide +kernel
theorem dX7_share_28 : decode cX7_share 28 = .ok (.aload_n 0, 1) := by decide +kernel
theorem dX7_share_29 : decode cX7_share 29 = .ok (.getfield 23, 3) := by decide +kernel
theorem dX7_share_32 : decode cX7_share 32 = .ok (.iconst 3, 1) := by decide +kernel
theorem dX7_share_33 : decode cX7_share 33 = .ok (.iaload, 1) := by decide +kernel
theorem dX7_share_34 : decode cX7_share 34 = .ok (.ifCond .ne 6, 3) := by decide +kernel
theorem dX7_share_37 : decode cX7_share 37 = .ok (.bipush (-4), 2) := by decide +kernel
theorem dX7_share_39 : decode cX7_share 39 = .ok (.ireturn, 1) := by decide +kernel
theorem dX7_share_40 : decode cX7_share 40 = .ok (.iconst 0, 1) := by decide +kernel
theorem dX7_share_41 : decode cX7_share 41 = .ok (.istore 4, 2) := by decide +kernel
theorem dX7_share_43 : decode cX7_share 43 = .ok (.iload 4, 2) := by decide +kernel
theorem dX7_share_45 : decode cX7_share 45 = .ok (.bipush 10, 2) := by decide +kernel
theorem dX7_share_47 : decode cX7_share 47 = .ok (.if_icmp .ge 17, 3) := by decide +kernel
theorem dX7_share_50 : decode cX7_share 50 = .ok (.aload_n 0, 1) := by decide +kernel
theorem dX7_share_51 : decode cX7_share 51 = .ok (.getfield 38, 3) := by decide +kernel
theorem dX7_share_54 : decode cX7_share 54 = .ok (.iload 4, 2) := by decide +kernel
theorem dX7_share_56 : decode cX7_share 56 = .ok (.iconst 0, 1) := by decide +kernel
theorem dX7_share_57 : decode cX7_share 57 = .ok (.iastore, 1) := by decide +kernel
theorem dX7_share_58 : decode cX7_share 58 = .ok (.iinc 4 1, 3) := by decide +kernel
theorem dX7_share_61 : decode cX7_share 61 = .ok (.goto (-18), 3) := by decide +kernel
theorem dX7_share_64 : decode cX7_share 64 = .ok (.aload_n 0, 1) := by decide +kernel
theorem dX7_share_65 : decode cX7_share 65 = .ok (.getfield 38, 3) := by decide +kernel
theorem dX7_share_68 : decode cX7_share 68 = .ok (.aload_n 0, 1) := by decide +kernel
theorem dX7_share_69 : decode cX7_share 69 = .ok (.getfield 23, 3) := by decide +kernel
theorem dX7_share_72 : decode cX7_share 72 = .ok (.iconst 3, 1) := by decide +kernel
theorem dX7_share_73 : decode cX7_share 73 = .ok (.iaload, 1) := by decide +kernel
theorem dX7_share_74 : decode cX7_share 74 = .ok (.iconst 1, 1) := by decide +kernel
theorem dX7_share_75 : decode cX7_share 75 = .ok (.isub, 1) := by decide +kernel
theorem dX7_share_76 : decode cX7_share 76 = .ok (.iload_n 1, 1) := by decide +kernel
theorem dX7_share_77 : decode cX7_share 77 = .ok (.iastore, 1) := by decide +kernel
theorem dX7_share_78 : decode cX7_share 78 = .ok (.bipush (-4), 2) := by decide +kernel
theorem dX7_share_80 : decode cX7_share 80 = .ok (.istore 4, 2) := by decide +kernel
theorem dX7_share_82 : decode cX7_share 82 = .ok (.bipush (-4), 2) := by decide +kernel
theorem dX7_share_84 : decode cX7_share 84 = .ok (.istore 5, 2) := by decide +kernel
theorem dX7_share_86 : decode cX7_share 86 = .ok (.iconst 1, 1) := by decide +kernel
theorem dX7_share_87 : decode cX7_share 87 = .ok (.istore 6, 2) := by decide +kernel
theorem dX7_share_89 : decode cX7_share 89 = .ok (.iload 6, 2) := by decide +kernel
theorem dX7_share_91 : decode cX7_share 91 = .ok (.ifCond .eq 147, 3) := by decide +kernel
theorem dX7_share_94 : decode cX7_share 94 = .ok (.aload_n 0, 1) := by decide +kernel
theorem dX7_share_95 : decode cX7_share 95 = .ok (.invokevirtual 139, 3) := by decide +kernel
theorem dX7_share_98 : decode cX7_share 98 = .ok (.iconst 0, 1) := by decide +kernel
theorem dX7_share_99 : decode cX7_share 99 = .ok (.istore 7, 2) := by decide +kernel
theorem dX7_share_101 : decode cX7_share 101 = .ok (.iload 7, 2) := by decide +kernel
theorem dX7_share_103 : decode cX7_share 103 = .ok (.aload_n 0, 1) := by decide +kernel
theorem dX7_share_104 : decode cX7_share 104 = .ok (.getfield 23, 3) := by decide +kernel
theorem dX7_share_107 : decode cX7_share 107 = .ok (.iconst 3, 1) := by decide +kernel
theorem dX7_share_108 : decode cX7_share 108 = .ok (.iaload, 1) := by decide +kernel
theorem dX7_share_109 : decode cX7_share 109 = .ok (.if_icmp .ge 53, 3) := by decide +kernel
theorem dX7_share_112 : decode cX7_share 112 = .ok (.aload_n 0, 1) := by decide +kernel
theorem dX7_share_113 : decode cX7_share 113 = .ok (.getfield 26, 3) := by decide +kernel
theorem dX7_share_116 : decode cX7_share 116 = .ok (.bipush 14, 2) := by decide +kernel
theorem dX7_share_118 : decode cX7_share 118 = .ok (.iload 7, 2) := by decide +kernel
theorem dX7_share_120 : decode cX7_share 120 = .ok (.iadd, 1) := by decide +kernel
theorem dX7_share_121 : decode cX7_share 121 = .ok (.iaload, 1) := by decide +kernel
theorem dX7_share_122 : decode cX7_share 122 = .ok (.aload_n 0, 1) := by decide +kernel
theorem dX7_share_123 : decode cX7_share 123 = .ok (.getfield 38, 3) := by decide +kernel
theorem dX7_share_126 : decode cX7_share 126 = .ok (.iload 7, 2) := by decide +kernel
theorem dX7_share_128 : decode cX7_share 128 = .ok (.iaload, 1) := by decide +kernel
theorem dX7_share_129 : decode cX7_share 129 = .ok (.iadd, 1) := by decide +kernel
theorem dX7_share_130 : decode cX7_share 130 = .ok (.istore 8, 2) := by decide +kernel
theorem dX7_share_132 : decode cX7_share 132 = .ok (.aload_n 0, 1) := by decide +kernel
theorem dX7_share_133 : decode cX7_share 133 = .ok (.getfield 26, 3) := by decide +kernel
theorem dX7_share_136 : decode cX7_share 136 = .ok (.bipush 14, 2) := by decide +kernel
theorem dX7_share_138 : decode cX7_share 138 = .ok (.iload 7, 2) := by decide +kernel
theorem dX7_share_140 : decode cX7_share 140 = .ok (.iadd, 1) := by decide +kernel
theorem dX7_share_141 : decode cX7_share 141 = .ok (.iload 8, 2) := by decide +kernel
theorem dX7_share_143 : decode cX7_share 143 = .ok (.bipush 20, 2) := by decide +kernel
theorem dX7_share_145 : decode cX7_share 145 = .ok (.if_icmp .le 8, 3) := by decide +kernel
theorem dX7_share_148 : decode cX7_share 148 = .ok (.bipush 20, 2) := by decide +kernel
theorem dX7_share_150 : decode cX7_share 150 = .ok (.goto 5, 3) := by decide +kernel
theorem dX7_share_153 : decode cX7_share 153 = .ok (.iload 8, 2) := by decide +kernel
theorem dX7_share_155 : decode cX7_share 155 = .ok (.iastore, 1) := by decide +kernel
theorem dX7_share_156 : decode cX7_share 156 = .ok (.iinc 7 1, 3) := by decide +kernel
theorem dX7_share_159 : decode cX7_share 159 = .ok (.goto (-58), 3) := by decide +kernel
theorem dX7_share_162 : decode cX7_share 162 = .ok (.aload_n 0, 1) := by decide +kernel
theorem dX7_share_163 : decode cX7_share 163 = .ok (.iload_n 2, 1) := by decide +kernel
theorem dX7_share_164 : decode cX7_share 164 = .ok (.invokevirtual 142, 3) := by decide +kernel
theorem dX7_share_167 : decode cX7_share 167 = .ok (.istore 7, 2) := by decide +kernel
theorem dX7_share_169 : decode cX7_share 169 = .ok (.aload_n 0, 1) := by decide +kernel
theorem dX7_share_170 : decode cX7_share 170 = .ok (.getfield 26, 3) := by decide +kernel
theorem dX7_share_173 : decode cX7_share 173 = .ok (.invokestatic 112, 3) := by decide +kernel
theorem dX7_share_176 : decode cX7_share 176 = .ok (.istore 8, 2) := by decide +kernel
theorem dX7_share_178 : decode cX7_share 178 = .ok (.iload 4, 2) := by decide +kernel
theorem dX7_share_180 : decode cX7_share 180 = .ok (.bipush (-4), 2) := by decide +kernel
theorem dX7_share_182 : decode cX7_share 182 = .ok (.if_icmp .eq 24, 3) := by decide +kernel
theorem dX7_share_185 : decode cX7_share 185 = .ok (.iload 7, 2) := by decide +kernel
theorem dX7_share_187 : decode cX7_share 187 = .ok (.iload 4, 2) := by decide +kernel
theorem dX7_share_189 : decode cX7_share 189 = .ok (.if_icmp .lt 17, 3) := by decide +kernel
theorem dX7_share_192 : decode cX7_share 192 = .ok (.iload 7, 2) := by decide +kernel
theorem dX7_share_194 : decode cX7_share 194 = .ok (.iload 4, 2) := by decide +kernel
theorem dX7_share_196 : decode cX7_share 196 = .ok (.if_icmp .ne 33, 3) := by decide +kernel
theorem dX7_share_199 : decode cX7_share 199 = .ok (.iload 8, 2) := by decide +kernel
theorem dX7_share_201 : decode cX7_share 201 = .ok (.iload 5, 2) := by decide +kernel
theorem dX7_share_203 : decode cX7_share 203 = .ok (.if_icmp .ge 26, 3) := by decide +kernel
theorem dX7_share_206 : decode cX7_share 206 = .ok (.iload 7, 2) := by decide +kernel
theorem dX7_share_208 : decode cX7_share 208 = .ok (.istore 4, 2) := by decide +kernel
theorem dX7_share_210 : decode cX7_share 210 = .ok (.iload 8, 2) := by decide +kernel
theorem dX7_share_212 : decode cX7_share 212 = .ok (.istore 5, 2) := by decide +kernel
theorem dX7_share_214 : decode cX7_share 214 = .ok (.aload_n 0, 1) := by decide +kernel
theorem dX7_share_215 : decode cX7_share 215 = .ok (.getfield 38, 3) := by decide +kernel
theorem dX7_share_218 : decode cX7_share 218 = .ok (.iconst 0, 1) := by decide +kernel
theorem dX7_share_219 : decode cX7_share 219 = .ok (.aload_n 0, 1) := by decide +kernel
theorem dX7_share_220 : decode cX7_share 220 = .ok (.getfield 41, 3) := by decide +kernel
theorem dX7_share_223 : decode cX7_share 223 = .ok (.iconst 0, 1) := by decide +kernel
theorem dX7_share_224 : decode cX7_share 224 = .ok (.bipush 10, 2) := by decide +kernel
theorem dX7_share_226 : decode cX7_share 226 = .ok (.invokestatic 105, 3) := by decide +kernel
theorem dX7_share_229 : decode cX7_share 229 = .ok (.aload_n 0, 1) := by decide +kernel
theorem dX7_share_230 : decode cX7_share 230 = .ok (.invokevirtual 149, 3) := by decide +kernel
theorem dX7_share_233 : decode cX7_share 233 = .ok (.istore 6, 2) := by decide +kernel
theorem dX7_share_235 : decode cX7_share 235 = .ok (.goto (-146), 3) := by decide +kernel
theorem dX7_share_238 : decode cX7_share 238 = .ok (.iload_n 3, 1) := by decide +kernel
theorem dX7_share_239 : decode cX7_share 239 = .ok (.iconst (-1), 1) := by decide +kernel
theorem dX7_share_240 : decode cX7_share 240 = .ok (.if_icmp .ne 8, 3) := by decide +kernel
theorem dX7_share_243 : decode cX7_share 243 = .ok (.iload 4, 2) := by decide +kernel
theorem dX7_share_245 : decode cX7_share 245 = .ok (.goto 33, 3) := by decide +kernel
theorem dX7_share_248 : decode cX7_share 248 = .ok (.iload_n 3, 1) := by decide +kernel
theorem dX7_share_249 : decode cX7_share 249 = .ok (.bipush (-2), 2) := by decide +kernel
theorem dX7_share_251 : decode cX7_share 251 = .ok (.if_icmp .ne 8, 3) := by decide +kernel
theorem dX7_share_254 : decode cX7_share 254 = .ok (.iload 5, 2) := by decide +kernel
theorem dX7_share_256 : decode cX7_share 256 = .ok (.goto 22, 3) := by decide +kernel
theorem dX7_share_259 : decode cX7_share 259 = .ok (.aload_n 0, 1) := by decide +kernel
theorem dX7_share_260 : decode cX7_share 260 = .ok (.iload_n 3, 1) := by decide +kernel
theorem dX7_share_261 : decode cX7_share 261 = .ok (.invokevirtual 56, 3) := by decide +kernel
theorem dX7_share_264 : decode cX7_share 264 = .ok (.ifCond .eq 12, 3) := by decide +kernel
theorem dX7_share_267 : decode cX7_share 267 = .ok (.aload_n 0, 1) := by decide +kernel
theorem dX7_share_268 : decode cX7_share 268 = .ok (.getfield 41, 3) := by decide +kernel
theorem dX7_share_271 : decode cX7_share 271 = .ok (.iload_n 3, 1) := by decide +kernel
theorem dX7_share_272 : decode cX7_share 272 = .ok (.iaload, 1) := by decide +kernel
theorem dX7_share_273 : decode cX7_share 273 = .ok (.goto 5, 3) := by decide +kernel
theorem dX7_share_276 : decode cX7_share 276 = .ok (.bipush (-4), 2) := by decide +kernel
theorem dX7_share_278 : decode cX7_share 278 = .ok (.ireturn, 1) := by decide +kernel
set_option maxRecDepth 20000 in
theorem ggX7_worst_X7_in : GoodIn wsX7_worst wsX7_in := goodIn_r _ [5] (by decide +kernel) (by decide +kernel)
set_option maxRecDepth 20000 in
theorem gX7_worst_X7_in : GoodIn wsX7_worst (va_wsS RX7 44 yX7_in wsX7_in) := goodIn_app (goodIn_of _ (by decide +kernel)) ggX7_worst_X7_in
set_option maxRecDepth 20000 in
theorem ggX7_worst_X7_begin : GoodIn wsX7_worst wsX7_begin := goodIn_r _ [9, 10, 1, 11, 12, 4, 13, 33, 34, 35, 36, 37, 38, 39, 40, 41, 42, 43, 44, 45, 46, 47] (by decide +kernel) (by decide +kernel)
set_option maxRecDepth 20000 in
theorem gX7_worst_X7_begin : GoodIn wsX7_worst (wsV RX7 139 RX7 yX7_begin wsX7_begin) := goodIn_app (goodIn_of _ (by decide +kernel)) ggX7_worst_X7_begin
set_option maxRecDepth 20000 in
theorem ggX7_worst_X7_yearIn : GoodIn wsX7_worst wsX7_yearIn := goodIn_r _ [17, 18, 19, 4, 20, 21, 22, 23, 24, 25, 26, 27, 28, 29, 30, 31, 32, 33, 34, 35, 36, 37, 38, 39, 40, 41, 42, 43, 44, 45, 46, 47] (by decide +kernel) (by decide +kernel)
set_option maxRecDepth 20000 in
theorem gX7_worst_X7_yearIn : GoodIn wsX7_worst (wsV RX7 125 RX7 yX7_yearIn wsX7_yearIn) := goodIn_app (goodIn_of _ (by decide +kernel)) ggX7_worst_X7_yearIn
theorem dX7_worst_0 : decode cX7_worst 0 = .ok (.iload_n 1, 1) := by decide +kernel
theorem dX7_worst_1 : decode cX7_worst 1 = .ok (.iconst 0, 1) := by decide +kernel
theorem dX7_worst_2 : decode cX7_worst 2 = .ok (.iconst 1, 1) := by decide +kernel
theorem dX7_worst_3 : decode cX7_worst 3 = .ok (.invokestatic 44, 3) := by decide +kernel
theorem dX7_worst_6 : decode cX7_worst 6 = .ok (.ifCond .ne 5, 3) := by decide +kernel
theorem dX7_worst_9 : decode cX7_worst 9 = .ok (.iconst (-1), 1) := by decide +kernel
theorem dX7_worst_10 : decode cX7_worst 10 = .ok (.ireturn, 1) := by decide +kernel
theorem dX7_worst_11 : decode cX7_worst 11 = .ok (.aload_n 0, 1) := by decide +kernel
theorem dX7_worst_12 : decode cX7_worst 12 = .ok (.invokevirtual 139, 3) := by decide +kernel
theorem dX7_worst_15 : decode cX7_worst 15 = .ok (.bipush (-4), 2) := by decide +kernel
theorem dX7_worst_17 : decode cX7_worst 17 = .ok (.istore_n 2, 1) := by decide +kernel
theorem dX7_worst_18 : decode cX7_worst 18 = .ok (.iconst 0, 1) := by decide +kernel
theorem dX7_worst_19 : decode cX7_worst 19 = .ok (.istore_n 3, 1) := by decide +kernel
theorem dX7_worst_20 : decode cX7_worst 20 = .ok (.iconst 0, 1) := by decide +kernel
theorem dX7_worst_21 : decode cX7_worst 21 = .ok (.istore 4, 2) := by decide +kernel
theorem dX7_worst_23 : decode cX7_worst 23 = .ok (.iload 4, 2) := by decide +kernel
theorem dX7_worst_25 : decode cX7_worst 25 = .ok (.bipush 40, 2) := by decide +kernel
theorem dX7_worst_27 : decode cX7_worst 27 = .ok (.if_icmp .ge 45, 3) := by decide +kernel
theorem dX7_worst_30 : decode cX7_worst 30 = .ok (.aload_n 0, 1) := by decide +kernel
theorem dX7_worst_31 : decode cX7_worst 31 = .ok (.aload_n 0, 1) := by decide +kernel
theorem dX7_worst_32 : decode cX7_worst 32 = .ok (.getfield 26, 3) := by decide +kernel
theorem dX7_worst_35 : decode cX7_worst 35 = .ok (.invokevirtual 125, 3) := by decide +kernel
theorem dX7_worst_38 : decode cX7_worst 38 = .ok (.istore 5, 2) := by decide +kernel
theorem dX7_worst_40 : decode cX7_worst 40 = .ok (.iload 5, 2) := by decide +kernel
theorem dX7_worst_42 : decode cX7_worst 42 = .ok (.iload_n 3, 1) := by decide +kernel
theorem dX7_worst_43 : decode cX7_worst 43 = .ok (.if_icmp .le 8, 3) := by decide +kernel
theorem dX7_worst_46 : decode cX7_worst 46 = .ok (.iload 4, 2) := by decide +kernel
theorem dX7_worst_48 : decode cX7_worst 48 = .ok (.goto 4, 3) := by decide +kernel
theorem dX7_worst_51 : decode cX7_worst 51 = .ok (.iload_n 2, 1) := by decide +kernel
theorem dX7_worst_52 : decode cX7_worst 52 = .ok (.istore_n 2, 1) := by decide +kernel
theorem dX7_worst_53 : decode cX7_worst 53 = .ok (.iload 5, 2) := by decide +kernel
theorem dX7_worst_55 : decode cX7_worst 55 = .ok (.iload_n 3, 1) := by decide +kernel
theorem dX7_worst_56 : decode cX7_worst 56 = .ok (.if_icmp .le 8, 3) := by decide +kernel
theorem dX7_worst_59 : decode cX7_worst 59 = .ok (.iload 5, 2) := by decide +kernel
theorem dX7_worst_61 : decode cX7_worst 61 = .ok (.goto 4, 3) := by decide +kernel
theorem dX7_worst_64 : decode cX7_worst 64 = .ok (.iload_n 3, 1) := by decide +kernel
theorem dX7_worst_65 : decode cX7_worst 65 = .ok (.istore_n 3, 1) := by decide +kernel
theorem dX7_worst_66 : decode cX7_worst 66 = .ok (.iinc 4 1, 3) := by decide +kernel
theorem dX7_worst_69 : decode cX7_worst 69 = .ok (.goto (-46), 3) := by decide +kernel
theorem dX7_worst_72 : decode cX7_worst 72 = .ok (.iload_n 2, 1) := by decide +kernel
theorem dX7_worst_73 : decode cX7_worst 73 = .ok (.bipush (-4), 2) := by decide +kernel
theorem dX7_worst_75 : decode cX7_worst 75 = .ok (.if_icmp .eq 7, 3) := by decide +kernel
theorem dX7_worst_78 : decode cX7_worst 78 = .ok (.iload_n 1, 1) := by decide +kernel
theorem dX7_worst_79 : decode cX7_worst 79 = .ok (.ifCond .ne 7, 3) := by decide +kernel
theorem dX7_worst_82 : decode cX7_worst 82 = .ok (.iload_n 2, 1) := by decide +kernel
theorem dX7_worst_83 : decode cX7_worst 83 = .ok (.goto 4, 3) := by decide +kernel
theorem dX7_worst_86 : decode cX7_worst 86 = .ok (.iload_n 3, 1) := by decide +kernel
theorem dX7_worst_87 : decode cX7_worst 87 = .ok (.ireturn, 1) := by decide +kernel
set_option maxRecDepth 20000 in
theorem ggX7_hot_X7_in : GoodIn wsX7_hot wsX7_in := goodIn_r _ [5] (by decide +kernel) (by decide +kernel)
set_option maxRecDepth 20000 in
theorem gX7_hot_X7_in : GoodIn wsX7_hot (va_wsS RX7 44 yX7_in wsX7_in) := goodIn_app (goodIn_of _ (by decide +kernel)) ggX7_hot_X7_in
theorem dX7_hot_0 : decode cX7_hot 0 = .ok (.iload_n 1, 1) := by decide +kernel
theorem dX7_hot_1 : decode cX7_hot 1 = .ok (.iconst 1, 1) := by decide +kernel
theorem dX7_hot_2 : decode cX7_hot 2 = .ok (.aload_n 0, 1) := by decide +kernel
theorem dX7_hot_3 : decode cX7_hot 3 = .ok (.getfield 23, 3) := by decide +kernel
theorem dX7_hot_6 : decode cX7_hot 6 = .ok (.iconst 3, 1) := by decide +kernel
theorem dX7_hot_7 : decode cX7_hot 7 = .ok (.iaload, 1) := by decide +kernel
theorem dX7_hot_8 : decode cX7_hot 8 = .ok (.invokestatic 44, 3) := by decide +kernel
theorem dX7_hot_11 : decode cX7_hot 11 = .ok (.ifCond .ne 5, 3) := by decide +kernel
theorem dX7_hot_14 : decode cX7_hot 14 = .ok (.iconst (-1), 1) := by decide +kernel
theorem dX7_hot_15 : decode cX7_hot 15 = .ok (.ireturn, 1) := by decide +kernel
theorem dX7_hot_16 : decode cX7_hot 16 = .ok (.iconst 0, 1) := by decide +kernel
theorem dX7_hot_17 : decode cX7_hot 17 = .ok (.istore_n 2, 1) := by decide +kernel
theorem dX7_hot_18 : decode cX7_hot 18 = .ok (.iconst 1, 1) := by decide +kernel
theorem dX7_hot_19 : decode cX7_hot 19 = .ok (.istore_n 3, 1) := by decide +kernel
theorem dX7_hot_20 : decode cX7_hot 20 = .ok (.aload_n 0, 1) := by decide +kernel
theorem dX7_hot_21 : decode cX7_hot 21 = .ok (.getfield 23, 3) := by decide +kernel
theorem dX7_hot_24 : decode cX7_hot 24 = .ok (.iconst 3, 1) := by decide +kernel
theorem dX7_hot_25 : decode cX7_hot 25 = .ok (.iaload, 1) := by decide +kernel
theorem dX7_hot_26 : decode cX7_hot 26 = .ok (.iconst 1, 1) := by decide +kernel
theorem dX7_hot_27 : decode cX7_hot 27 = .ok (.isub, 1) := by decide +kernel
theorem dX7_hot_28 : decode cX7_hot 28 = .ok (.istore 4, 2) := by decide +kernel
theorem dX7_hot_30 : decode cX7_hot 30 = .ok (.iload 4, 2) := by decide +kernel
theorem dX7_hot_32 : decode cX7_hot 32 = .ok (.aload_n 0, 1) := by decide +kernel
theorem dX7_hot_33 : decode cX7_hot 33 = .ok (.getfield 23, 3) := by decide +kernel
theorem dX7_hot_36 : decode cX7_hot 36 = .ok (.iconst 3, 1) := by decide +kernel
theorem dX7_hot_37 : decode cX7_hot 37 = .ok (.iaload, 1) := by decide +kernel
theorem dX7_hot_38 : decode cX7_hot 38 = .ok (.iload_n 1, 1) := by decide +kernel
theorem dX7_hot_39 : decode cX7_hot 39 = .ok (.isub, 1) := by decide +kernel
theorem dX7_hot_40 : decode cX7_hot 40 = .ok (.if_icmp .lt 58, 3) := by decide +kernel
theorem dX7_hot_43 : decode cX7_hot 43 = .ok (.iload_n 2, 1) := by decide +kernel
theorem dX7_hot_44 : decode cX7_hot 44 = .ok (.aload_n 0, 1) := by decide +kernel
theorem dX7_hot_45 : decode cX7_hot 45 = .ok (.getfield 23, 3) := by decide +kernel
theorem dX7_hot_48 : decode cX7_hot 48 = .ok (.bipush 14, 2) := by decide +kernel
theorem dX7_hot_50 : decode cX7_hot 50 = .ok (.iload 4, 2) := by decide +kernel
theorem dX7_hot_52 : decode cX7_hot 52 = .ok (.iadd, 1) := by decide +kernel
theorem dX7_hot_53 : decode cX7_hot 53 = .ok (.iaload, 1) := by decide +kernel
theorem dX7_hot_54 : decode cX7_hot 54 = .ok (.aload_n 0, 1) := by decide +kernel
theorem dX7_hot_55 : decode cX7_hot 55 = .ok (.getfield 23, 3) := by decide +kernel
theorem dX7_hot_58 : decode cX7_hot 58 = .ok (.bipush 24, 2) := by decide +kernel
theorem dX7_hot_60 : decode cX7_hot 60 = .ok (.iload 4, 2) := by decide +kernel
theorem dX7_hot_62 : decode cX7_hot 62 = .ok (.iadd, 1) := by decide +kernel
theorem dX7_hot_63 : decode cX7_hot 63 = .ok (.iaload, 1) := by decide +kernel
theorem dX7_hot_64 : decode cX7_hot 64 = .ok (.iadd, 1) := by decide +kernel
theorem dX7_hot_65 : decode cX7_hot 65 = .ok (.iadd, 1) := by decide +kernel
theorem dX7_hot_66 : decode cX7_hot 66 = .ok (.istore_n 2, 1) := by decide +kernel
theorem dX7_hot_67 : decode cX7_hot 67 = .ok (.iload_n 3, 1) := by decide +kernel
theorem dX7_hot_68 : decode cX7_hot 68 = .ok (.ifCond .eq 22, 3) := by decide +kernel
theorem dX7_hot_71 : decode cX7_hot 71 = .ok (.aload_n 0, 1) := by decide +kernel
theorem dX7_hot_72 : decode cX7_hot 72 = .ok (.getfield 23, 3) := by decide +kernel
theorem dX7_hot_75 : decode cX7_hot 75 = .ok (.bipush 24, 2) := by decide +kernel
theorem dX7_hot_77 : decode cX7_hot 77 = .ok (.iload 4, 2) := by decide +kernel
theorem dX7_hot_79 : decode cX7_hot 79 = .ok (.iadd, 1) := by decide +kernel
theorem dX7_hot_80 : decode cX7_hot 80 = .ok (.iaload, 1) := by decide +kernel
theorem dX7_hot_81 : decode cX7_hot 81 = .ok (.bipush 7, 2) := by decide +kernel
theorem dX7_hot_83 : decode cX7_hot 83 = .ok (.if_icmp .ge 7, 3) := by decide +kernel
theorem dX7_hot_86 : decode cX7_hot 86 = .ok (.iconst 1, 1) := by decide +kernel
theorem dX7_hot_87 : decode cX7_hot 87 = .ok (.goto 4, 3) := by decide +kernel
theorem dX7_hot_90 : decode cX7_hot 90 = .ok (.iconst 0, 1) := by decide +kernel
theorem dX7_hot_91 : decode cX7_hot 91 = .ok (.istore_n 3, 1) := by decide +kernel
theorem dX7_hot_92 : decode cX7_hot 92 = .ok (.iinc 4 (-1), 3) := by decide +kernel
theorem dX7_hot_95 : decode cX7_hot 95 = .ok (.goto (-65), 3) := by decide +kernel
theorem dX7_hot_98 : decode cX7_hot 98 = .ok (.iload_n 3, 1) := by decide +kernel
theorem dX7_hot_99 : decode cX7_hot 99 = .ok (.ifCond .eq 14, 3) := by decide +kernel
theorem dX7_hot_102 : decode cX7_hot 102 = .ok (.iload_n 2, 1) := by decide +kernel
theorem dX7_hot_103 : decode cX7_hot 103 = .ok (.sipush 999, 3) := by decide +kernel
theorem dX7_hot_106 : decode cX7_hot 106 = .ok (.if_icmp .gt 7, 3) := by decide +kernel
theorem dX7_hot_109 : decode cX7_hot 109 = .ok (.iload_n 2, 1) := by decide +kernel
theorem dX7_hot_110 : decode cX7_hot 110 = .ok (.goto 5, 3) := by decide +kernel
theorem dX7_hot_113 : decode cX7_hot 113 = .ok (.bipush (-4), 2) := by decide +kernel
theorem dX7_hot_115 : decode cX7_hot 115 = .ok (.ireturn, 1) := by decide +kernel
set_option maxRecDepth 20000 in
theorem ggX7_bursts_X7_in : GoodIn wsX7_bursts wsX7_in := goodIn_r _ [5] (by decide +kernel) (by decide +kernel)
set_option maxRecDepth 20000 in
theorem gX7_bursts_X7_in : GoodIn wsX7_bursts (va_wsS RX7 44 yX7_in wsX7_in) := goodIn_app (goodIn_of _ (by decide +kernel)) ggX7_bursts_X7_in
set_option maxRecDepth 20000 in
theorem ggX7_bursts_X7_begin : GoodIn wsX7_bursts wsX7_begin := goodIn_r _ [9, 10, 1, 11, 12, 4, 13, 32, 33, 34, 35, 36, 37, 38, 39, 40, 41, 42, 43, 44, 45, 46] (by decide +kernel) (by decide +kernel)
set_option maxRecDepth 20000 in
theorem gX7_bursts_X7_begin : GoodIn wsX7_bursts (wsV RX7 139 RX7 yX7_begin wsX7_begin) := goodIn_app (goodIn_of _ (by decide +kernel)) ggX7_bursts_X7_begin
set_option maxRecDepth 20000 in
theorem ggX7_bursts_X7_has : GoodIn wsX7_bursts wsX7_has := goodIn_r _ [16] (by decide +kernel) (by decide +kernel)
set_option maxRecDepth 20000 in
theorem gX7_bursts_X7_has : GoodIn wsX7_bursts (va_wsS RX7 152 yX7_has wsX7_has) := goodIn_app (goodIn_of _ (by decide +kernel)) ggX7_bursts_X7_has
set_option maxRecDepth 20000 in
theorem ggX7_bursts_X7_rainIn : GoodIn wsX7_bursts wsX7_rainIn := goodIn_r _ [19] (by decide +kernel) (by decide +kernel)
set_option maxRecDepth 20000 in
theorem gX7_bursts_X7_rainIn : GoodIn wsX7_bursts (va_wsS RX7 64 yX7_rainIn wsX7_rainIn) := goodIn_app (goodIn_of _ (by decide +kernel)) ggX7_bursts_X7_rainIn
set_option maxRecDepth 20000 in
theorem ggX7_bursts_X7_yearBy : GoodIn wsX7_bursts wsX7_yearBy := goodIn_r _ [23, 24, 25, 26, 27, 4, 28, 29, 30, 31, 32, 33, 34, 35, 36, 37, 38, 39, 40, 41, 42, 43, 44, 45, 46] (by decide +kernel) (by decide +kernel)
set_option maxRecDepth 20000 in
theorem gX7_bursts_X7_yearBy : GoodIn wsX7_bursts (wsV RX7 119 RX7 yX7_yearBy wsX7_yearBy) := goodIn_app (goodIn_of _ (by decide +kernel)) ggX7_bursts_X7_yearBy
theorem dX7_bursts_0 : decode cX7_bursts 0 = .ok (.iload_n 1, 1) := by decide +kernel
theorem dX7_bursts_1 : decode cX7_bursts 1 = .ok (.iconst 0, 1) := by decide +kernel
theorem dX7_bursts_2 : decode cX7_bursts 2 = .ok (.bipush 6, 2) := by decide +kernel
theorem dX7_bursts_4 : decode cX7_bursts 4 = .ok (.invokestatic 44, 3) := by decide +kernel
theorem dX7_bursts_7 : decode cX7_bursts 7 = .ok (.ifCond .eq 22, 3) := by decide +kernel
theorem dX7_bursts_10 : decode cX7_bursts 10 = .ok (.iload_n 2, 1) := by decide +kernel
theorem dX7_bursts_11 : decode cX7_bursts 11 = .ok (.iconst 0, 1) := by decide +kernel
theorem dX7_bursts_12 : decode cX7_bursts 12 = .ok (.bipush 10, 2) := by decide +kernel
theorem dX7_bursts_14 : decode cX7_bursts 14 = .ok (.invokestatic 44, 3) := by decide +kernel
theorem dX7_bursts_17 : decode cX7_bursts 17 = .ok (.ifCond .eq 12, 3) := by decide +kernel
theorem dX7_bursts_20 : decode cX7_bursts 20 = .ok (.iload_n 3, 1) := by decide +kernel
theorem dX7_bursts_21 : decode cX7_bursts 21 = .ok (.iconst 0, 1) := by decide +kernel
theorem dX7_bursts_22 : decode cX7_bursts 22 = .ok (.iconst 1, 1) := by decide +kernel
theorem dX7_bursts_23 : decode cX7_bursts 23 = .ok (.invokestatic 44, 3) := by decide +kernel
theorem dX7_bursts_26 : decode cX7_bursts 26 = .ok (.ifCond .ne 5, 3) := by decide +kernel
theorem dX7_bursts_29 : decode cX7_bursts 29 = .ok (.iconst (-1), 1) := by decide +kernel
theorem dX7_bursts_30 : decode cX7_bursts 30 = .ok (.ireturn, 1) := by decide +kernel
theorem dX7_bursts_31 : decode cX7_bursts 31 = .ok (.iconst 0, 1) := by decide +kernel
theorem dX7_bursts_32 : decode cX7_bursts 32 = .ok (.istore 4, 2) := by decide +kernel
theorem dX7_bursts_34 : decode cX7_bursts 34 = .ok (.iconst 1, 1) := by decide +kernel
theorem dX7_bursts_35 : decode cX7_bursts 35 = .ok (.istore 5, 2) := by decide +kernel
theorem dX7_bursts_37 : decode cX7_bursts 37 = .ok (.iconst 0, 1) := by decide +kernel
theorem dX7_bursts_38 : decode cX7_bursts 38 = .ok (.istore 6, 2) := by decide +kernel
theorem dX7_bursts_40 : decode cX7_bursts 40 = .ok (.iload 6, 2) := by decide +kernel
theorem dX7_bursts_42 : decode cX7_bursts 42 = .ok (.iload_n 1, 1) := by decide +kernel
theorem dX7_bursts_43 : decode cX7_bursts 43 = .ok (.if_icmp .ge 16, 3) := by decide +kernel
theorem dX7_bursts_46 : decode cX7_bursts 46 = .ok (.iload 5, 2) := by decide +kernel
theorem dX7_bursts_48 : decode cX7_bursts 48 = .ok (.bipush 10, 2) := by decide +kernel
theorem dX7_bursts_50 : decode cX7_bursts 50 = .ok (.imul, 1) := by decide +kernel
theorem dX7_bursts_51 : decode cX7_bursts 51 = .ok (.istore 5, 2) := by decide +kernel
theorem dX7_bursts_53 : decode cX7_bursts 53 = .ok (.iinc 6 1, 3) := by decide +kernel
theorem dX7_bursts_56 : decode cX7_bursts 56 = .ok (.goto (-16), 3) := by decide +kernel
theorem dX7_bursts_59 : decode cX7_bursts 59 = .ok (.iconst 0, 1) := by decide +kernel
theorem dX7_bursts_60 : decode cX7_bursts 60 = .ok (.istore 6, 2) := by decide +kernel
theorem dX7_bursts_62 : decode cX7_bursts 62 = .ok (.iload 6, 2) := by decide +kernel
theorem dX7_bursts_64 : decode cX7_bursts 64 = .ok (.iconst 1, 1) := by decide +kernel
theorem dX7_bursts_65 : decode cX7_bursts 65 = .ok (.iload_n 1, 1) := by decide +kernel
theorem dX7_bursts_66 : decode cX7_bursts 66 = .ok (.ishl, 1) := by decide +kernel
theorem dX7_bursts_67 : decode cX7_bursts 67 = .ok (.if_icmp .ge 120, 3) := by decide +kernel
theorem dX7_bursts_70 : decode cX7_bursts 70 = .ok (.iconst 1, 1) := by decide +kernel
theorem dX7_bursts_71 : decode cX7_bursts 71 = .ok (.istore 7, 2) := by decide +kernel
theorem dX7_bursts_73 : decode cX7_bursts 73 = .ok (.iconst 0, 1) := by decide +kernel
theorem dX7_bursts_74 : decode cX7_bursts 74 = .ok (.istore 8, 2) := by decide +kernel
theorem dX7_bursts_76 : decode cX7_bursts 76 = .ok (.aload_n 0, 1) := by decide +kernel
theorem dX7_bursts_77 : decode cX7_bursts 77 = .ok (.invokevirtual 139, 3) := by decide +kernel
theorem dX7_bursts_80 : decode cX7_bursts 80 = .ok (.iconst 0, 1) := by decide +kernel
theorem dX7_bursts_81 : decode cX7_bursts 81 = .ok (.istore 9, 2) := by decide +kernel
theorem dX7_bursts_83 : decode cX7_bursts 83 = .ok (.iload 9, 2) := by decide +kernel
theorem dX7_bursts_85 : decode cX7_bursts 85 = .ok (.iload_n 1, 1) := by decide +kernel
theorem dX7_bursts_86 : decode cX7_bursts 86 = .ok (.if_icmp .ge 79, 3) := by decide +kernel
theorem dX7_bursts_89 : decode cX7_bursts 89 = .ok (.iload 7, 2) := by decide +kernel
theorem dX7_bursts_91 : decode cX7_bursts 91 = .ok (.iload 6, 2) := by decide +kernel
theorem dX7_bursts_93 : decode cX7_bursts 93 = .ok (.iload 9, 2) := by decide +kernel
theorem dX7_bursts_95 : decode cX7_bursts 95 = .ok (.invokestatic 152, 3) := by decide +kernel
theorem dX7_bursts_98 : decode cX7_bursts 98 = .ok (.ifCond .eq 7, 3) := by decide +kernel
theorem dX7_bursts_101 : decode cX7_bursts 101 = .ok (.iload_n 2, 1) := by decide +kernel
theorem dX7_bursts_102 : decode cX7_bursts 102 = .ok (.goto 7, 3) := by decide +kernel
theorem dX7_bursts_105 : decode cX7_bursts 105 = .ok (.bipush 10, 2) := by decide +kernel
theorem dX7_bursts_107 : decode cX7_bursts 107 = .ok (.iload_n 2, 1) := by decide +kernel
theorem dX7_bursts_108 : decode cX7_bursts 108 = .ok (.isub, 1) := by decide +kernel
theorem dX7_bursts_109 : decode cX7_bursts 109 = .ok (.imul, 1) := by decide +kernel
theorem dX7_bursts_110 : decode cX7_bursts 110 = .ok (.istore 7, 2) := by decide +kernel
theorem dX7_bursts_112 : decode cX7_bursts 112 = .ok (.aload_n 0, 1) := by decide +kernel
theorem dX7_bursts_113 : decode cX7_bursts 113 = .ok (.getfield 26, 3) := by decide +kernel
theorem dX7_bursts_116 : decode cX7_bursts 116 = .ok (.aload_n 0, 1) := by decide +kernel
theorem dX7_bursts_117 : decode cX7_bursts 117 = .ok (.getfield 26, 3) := by decide +kernel
theorem dX7_bursts_120 : decode cX7_bursts 120 = .ok (.iconst 0, 1) := by decide +kernel
theorem dX7_bursts_121 : decode cX7_bursts 121 = .ok (.iaload, 1) := by decide +kernel
theorem dX7_bursts_122 : decode cX7_bursts 122 = .ok (.invokestatic 64, 3) := by decide +kernel
theorem dX7_bursts_125 : decode cX7_bursts 125 = .ok (.istore 10, 2) := by decide +kernel
theorem dX7_bursts_127 : decode cX7_bursts 127 = .ok (.iload 8, 2) := by decide +kernel
theorem dX7_bursts_129 : decode cX7_bursts 129 = .ok (.aload_n 0, 1) := by decide +kernel
theorem dX7_bursts_130 : decode cX7_bursts 130 = .ok (.aload_n 0, 1) := by decide +kernel
theorem dX7_bursts_131 : decode cX7_bursts 131 = .ok (.getfield 26, 3) := by decide +kernel
theorem dX7_bursts_134 : decode cX7_bursts 134 = .ok (.iload 6, 2) := by decide +kernel
theorem dX7_bursts_136 : decode cX7_bursts 136 = .ok (.iload 9, 2) := by decide +kernel
theorem dX7_bursts_138 : decode cX7_bursts 138 = .ok (.invokestatic 152, 3) := by decide +kernel
theorem dX7_bursts_141 : decode cX7_bursts 141 = .ok (.ifCond .eq 10, 3) := by decide +kernel
theorem dX7_bursts_144 : decode cX7_bursts 144 = .ok (.iconst 2, 1) := by decide +kernel
theorem dX7_bursts_145 : decode cX7_bursts 145 = .ok (.iload 10, 2) := by decide +kernel
theorem dX7_bursts_147 : decode cX7_bursts 147 = .ok (.imul, 1) := by decide +kernel
theorem dX7_bursts_148 : decode cX7_bursts 148 = .ok (.goto 5, 3) := by decide +kernel
theorem dX7_bursts_151 : decode cX7_bursts 151 = .ok (.iload 10, 2) := by decide +kernel
theorem dX7_bursts_153 : decode cX7_bursts 153 = .ok (.invokevirtual 119, 3) := by decide +kernel
theorem dX7_bursts_156 : decode cX7_bursts 156 = .ok (.iadd, 1) := by decide +kernel
theorem dX7_bursts_157 : decode cX7_bursts 157 = .ok (.istore 8, 2) := by decide +kernel
theorem dX7_bursts_159 : decode cX7_bursts 159 = .ok (.iinc 9 1, 3) := by decide +kernel
theorem dX7_bursts_162 : decode cX7_bursts 162 = .ok (.goto (-79), 3) := by decide +kernel
theorem dX7_bursts_165 : decode cX7_bursts 165 = .ok (.iload 4, 2) := by decide +kernel
theorem dX7_bursts_167 : decode cX7_bursts 167 = .ok (.iload 8, 2) := by decide +kernel
theorem dX7_bursts_169 : decode cX7_bursts 169 = .ok (.ifCond .ne 8, 3) := by decide +kernel
theorem dX7_bursts_172 : decode cX7_bursts 172 = .ok (.iload 7, 2) := by decide +kernel
theorem dX7_bursts_174 : decode cX7_bursts 174 = .ok (.goto 4, 3) := by decide +kernel
theorem dX7_bursts_177 : decode cX7_bursts 177 = .ok (.iconst 0, 1) := by decide +kernel
theorem dX7_bursts_178 : decode cX7_bursts 178 = .ok (.iadd, 1) := by decide +kernel
theorem dX7_bursts_179 : decode cX7_bursts 179 = .ok (.istore 4, 2) := by decide +kernel
theorem dX7_bursts_181 : decode cX7_bursts 181 = .ok (.iinc 6 1, 3) := by decide +kernel
theorem dX7_bursts_184 : decode cX7_bursts 184 = .ok (.goto (-122), 3) := by decide +kernel
theorem dX7_bursts_187 : decode cX7_bursts 187 = .ok (.iload 4, 2) := by decide +kernel
theorem dX7_bursts_189 : decode cX7_bursts 189 = .ok (.istore 6, 2) := by decide +kernel
theorem dX7_bursts_191 : decode cX7_bursts 191 = .ok (.iload 5, 2) := by decide +kernel
theorem dX7_bursts_193 : decode cX7_bursts 193 = .ok (.istore 7, 2) := by decide +kernel
theorem dX7_bursts_195 : decode cX7_bursts 195 = .ok (.iload 7, 2) := by decide +kernel
theorem dX7_bursts_197 : decode cX7_bursts 197 = .ok (.ifCond .le 21, 3) := by decide +kernel
theorem dX7_bursts_200 : decode cX7_bursts 200 = .ok (.iload 6, 2) := by decide +kernel
theorem dX7_bursts_202 : decode cX7_bursts 202 = .ok (.iload 7, 2) := by decide +kernel
theorem dX7_bursts_204 : decode cX7_bursts 204 = .ok (.irem, 1) := by decide +kernel
theorem dX7_bursts_205 : decode cX7_bursts 205 = .ok (.istore 8, 2) := by decide +kernel
theorem dX7_bursts_207 : decode cX7_bursts 207 = .ok (.iload 7, 2) := by decide +kernel
theorem dX7_bursts_209 : decode cX7_bursts 209 = .ok (.istore 6, 2) := by decide +kernel
theorem dX7_bursts_211 : decode cX7_bursts 211 = .ok (.iload 8, 2) := by decide +kernel
theorem dX7_bursts_213 : decode cX7_bursts 213 = .ok (.istore 7, 2) := by decide +kernel
theorem dX7_bursts_215 : decode cX7_bursts 215 = .ok (.goto (-20), 3) := by decide +kernel
theorem dX7_bursts_218 : decode cX7_bursts 218 = .ok (.iload_n 3, 1) := by decide +kernel
theorem dX7_bursts_219 : decode cX7_bursts 219 = .ok (.ifCond .ne 8, 3) := by decide +kernel
theorem dX7_bursts_222 : decode cX7_bursts 222 = .ok (.iload 4, 2) := by decide +kernel
theorem dX7_bursts_224 : decode cX7_bursts 224 = .ok (.goto 5, 3) := by decide +kernel
theorem dX7_bursts_227 : decode cX7_bursts 227 = .ok (.iload 5, 2) := by decide +kernel
theorem dX7_bursts_229 : decode cX7_bursts 229 = .ok (.iload 6, 2) := by decide +kernel
theorem dX7_bursts_231 : decode cX7_bursts 231 = .ok (.idiv, 1) := by decide +kernel
theorem dX7_bursts_232 : decode cX7_bursts 232 = .ok (.ireturn, 1) := by decide +kernel
set_option maxRecDepth 20000 in
theorem ggX7_image_X7_bring : GoodIn wsX7_image wsX7_bring := goodIn_r _ [7] (by decide +kernel) (by decide +kernel)
set_option maxRecDepth 20000 in
theorem gX7_image_X7_bring : GoodIn wsX7_image (va_wsS RX7 105 yX7_bring wsX7_bring) := goodIn_app (goodIn_of _ (by decide +kernel)) ggX7_image_X7_bring
theorem dX7_image_0 : decode cX7_image 0 = .ok (.aload_n 0, 1) := by decide +kernel
theorem dX7_image_1 : decode cX7_image 1 = .ok (.getfield 23, 3) := by decide +kernel
theorem dX7_image_4 : decode cX7_image 4 = .ok (.iconst 0, 1) := by decide +kernel
theorem dX7_image_5 : decode cX7_image 5 = .ok (.aload_n 0, 1) := by decide +kernel
theorem dX7_image_6 : decode cX7_image 6 = .ok (.getfield 32, 3) := by decide +kernel
theorem dX7_image_9 : decode cX7_image 9 = .ok (.iconst 0, 1) := by decide +kernel
theorem dX7_image_10 : decode cX7_image 10 = .ok (.sipush 407, 3) := by decide +kernel
theorem dX7_image_13 : decode cX7_image 13 = .ok (.invokestatic 105, 3) := by decide +kernel
theorem dX7_image_16 : decode cX7_image 16 = .ok (.aload_n 0, 1) := by decide +kernel
theorem dX7_image_17 : decode cX7_image 17 = .ok (.iconst 1, 1) := by decide +kernel
theorem dX7_image_18 : decode cX7_image 18 = .ok (.putfield 155, 3) := by decide +kernel
theorem dX7_image_21 : decode cX7_image 21 = .ok (.iconst 1, 1) := by decide +kernel
theorem dX7_image_22 : decode cX7_image 22 = .ok (.ireturn, 1) := by decide +kernel
set_option maxRecDepth 20000 in
theorem ggX7_restore_X7_bring : GoodIn wsX7_restore wsX7_bring := goodIn_r _ [7] (by decide +kernel) (by decide +kernel)
set_option maxRecDepth 20000 in
theorem gX7_restore_X7_bring : GoodIn wsX7_restore (va_wsS RX7 105 yX7_bring wsX7_bring) := goodIn_app (goodIn_of _ (by decide +kernel)) ggX7_restore_X7_bring
theorem dX7_restore_0 : decode cX7_restore 0 = .ok (.aload_n 0, 1) := by decide +kernel
theorem dX7_restore_1 : decode cX7_restore 1 = .ok (.getfield 155, 3) := by decide +kernel
theorem dX7_restore_4 : decode cX7_restore 4 = .ok (.ifCond .ne 6, 3) := by decide +kernel
theorem dX7_restore_7 : decode cX7_restore 7 = .ok (.bipush (-4), 2) := by decide +kernel
theorem dX7_restore_9 : decode cX7_restore 9 = .ok (.ireturn, 1) := by decide +kernel
theorem dX7_restore_10 : decode cX7_restore 10 = .ok (.aload_n 0, 1) := by decide +kernel
theorem dX7_restore_11 : decode cX7_restore 11 = .ok (.getfield 32, 3) := by decide +kernel
theorem dX7_restore_14 : decode cX7_restore 14 = .ok (.iconst 0, 1) := by decide +kernel
theorem dX7_restore_15 : decode cX7_restore 15 = .ok (.aload_n 0, 1) := by decide +kernel
theorem dX7_restore_16 : decode cX7_restore 16 = .ok (.getfield 23, 3) := by decide +kernel
theorem dX7_restore_19 : decode cX7_restore 19 = .ok (.iconst 0, 1) := by decide +kernel
theorem dX7_restore_20 : decode cX7_restore 20 = .ok (.sipush 407, 3) := by decide +kernel
theorem dX7_restore_23 : decode cX7_restore 23 = .ok (.invokestatic 105, 3) := by decide +kernel
theorem dX7_restore_26 : decode cX7_restore 26 = .ok (.iconst 1, 1) := by decide +kernel
theorem dX7_restore_27 : decode cX7_restore 27 = .ok (.ireturn, 1) := by decide +kernel
set_option maxRecDepth 20000 in
theorem ggX7_isSheet_X7_in : GoodIn wsX7_isSheet wsX7_in := goodIn_r _ [4] (by decide +kernel) (by decide +kernel)
set_option maxRecDepth 20000 in
theorem gX7_isSheet_X7_in : GoodIn wsX7_isSheet (va_wsS RX7 44 yX7_in wsX7_in) := goodIn_app (goodIn_of _ (by decide +kernel)) ggX7_isSheet_X7_in
theorem dX7_isSheet_0 : decode cX7_isSheet 0 = .ok (.iload_n 0, 1) := by decide +kernel
theorem dX7_isSheet_1 : decode cX7_isSheet 1 = .ok (.iconst 0, 1) := by decide +kernel
theorem dX7_isSheet_2 : decode cX7_isSheet 2 = .ok (.iconst 3, 1) := by decide +kernel
theorem dX7_isSheet_3 : decode cX7_isSheet 3 = .ok (.invokestatic 44, 3) := by decide +kernel
theorem dX7_isSheet_6 : decode cX7_isSheet 6 = .ok (.ireturn, 1) := by decide +kernel
theorem dX7_isPart_0 : decode cX7_isPart 0 = .ok (.iload_n 1, 1) := by decide +kernel
theorem dX7_isPart_1 : decode cX7_isPart 1 = .ok (.ifCond .lt 23, 3) := by decide +kernel
theorem dX7_isPart_4 : decode cX7_isPart 4 = .ok (.iload_n 0, 1) := by decide +kernel
theorem dX7_isPart_5 : decode cX7_isPart 5 = .ok (.ifCond .lt 19, 3) := by decide +kernel
theorem dX7_isPart_8 : decode cX7_isPart 8 = .ok (.iload_n 1, 1) := by decide +kernel
theorem dX7_isPart_9 : decode cX7_isPart 9 = .ok (.iload_n 2, 1) := by decide +kernel
theorem dX7_isPart_10 : decode cX7_isPart 10 = .ok (.if_icmp .gt 14, 3) := by decide +kernel
theorem dX7_isPart_13 : decode cX7_isPart 13 = .ok (.iload_n 0, 1) := by decide +kernel
theorem dX7_isPart_14 : decode cX7_isPart 14 = .ok (.iload_n 2, 1) := by decide +kernel
theorem dX7_isPart_15 : decode cX7_isPart 15 = .ok (.iload_n 1, 1) := by decide +kernel
theorem dX7_isPart_16 : decode cX7_isPart 16 = .ok (.isub, 1) := by decide +kernel
theorem dX7_isPart_17 : decode cX7_isPart 17 = .ok (.if_icmp .gt 7, 3) := by decide +kernel
theorem dX7_isPart_20 : decode cX7_isPart 20 = .ok (.iconst 1, 1) := by decide +kernel
theorem dX7_isPart_21 : decode cX7_isPart 21 = .ok (.goto 4, 3) := by decide +kernel
theorem dX7_isPart_24 : decode cX7_isPart 24 = .ok (.iconst 0, 1) := by decide +kernel
theorem dX7_isPart_25 : decode cX7_isPart 25 = .ok (.ireturn, 1) := by decide +kernel
set_option maxRecDepth 20000 in
theorem ggX7_wrong_X7_isPart : GoodIn wsX7_wrong wsX7_isPart := goodIn_r _ [6] (by decide +kernel) (by decide +kernel)
set_option maxRecDepth 20000 in
theorem gX7_wrong_X7_isPart : GoodIn wsX7_wrong (va_wsS RX7 159 yX7_isPart wsX7_isPart) := goodIn_app (goodIn_of _ (by decide +kernel)) ggX7_wrong_X7_isPart
theorem dX7_wrong_0 : decode cX7_wrong 0 = .ok (.aload_n 0, 1) := by decide +kernel
theorem dX7_wrong_1 : decode cX7_wrong 1 = .ok (.getfield 7, 3) := by decide +kernel
theorem dX7_wrong_4 : decode cX7_wrong 4 = .ok (.iload_n 1, 1) := by decide +kernel
theorem dX7_wrong_5 : decode cX7_wrong 5 = .ok (.iaload, 1) := by decide +kernel
theorem dX7_wrong_6 : decode cX7_wrong 6 = .ok (.ifCond .ge 8, 3) := by decide +kernel
theorem dX7_wrong_9 : decode cX7_wrong 9 = .ok (.bipush (-11), 2) := by decide +kernel
theorem dX7_wrong_11 : decode cX7_wrong 11 = .ok (.goto 39, 3) := by decide +kernel
theorem dX7_wrong_14 : decode cX7_wrong 14 = .ok (.aload_n 0, 1) := by decide +kernel
theorem dX7_wrong_15 : decode cX7_wrong 15 = .ok (.getfield 7, 3) := by decide +kernel
theorem dX7_wrong_18 : decode cX7_wrong 18 = .ok (.iload_n 1, 1) := by decide +kernel
theorem dX7_wrong_19 : decode cX7_wrong 19 = .ok (.iaload, 1) := by decide +kernel
theorem dX7_wrong_20 : decode cX7_wrong 20 = .ok (.iload_n 2, 1) := by decide +kernel
theorem dX7_wrong_21 : decode cX7_wrong 21 = .ok (.if_icmp .eq 8, 3) := by decide +kernel
theorem dX7_wrong_24 : decode cX7_wrong 24 = .ok (.bipush (-12), 2) := by decide +kernel
theorem dX7_wrong_26 : decode cX7_wrong 26 = .ok (.goto 24, 3) := by decide +kernel
theorem dX7_wrong_29 : decode cX7_wrong 29 = .ok (.iload_n 3, 1) := by decide +kernel
theorem dX7_wrong_30 : decode cX7_wrong 30 = .ok (.iload 4, 2) := by decide +kernel
theorem dX7_wrong_32 : decode cX7_wrong 32 = .ok (.aload_n 0, 1) := by decide +kernel
theorem dX7_wrong_33 : decode cX7_wrong 33 = .ok (.getfield 13, 3) := by decide +kernel
theorem dX7_wrong_36 : decode cX7_wrong 36 = .ok (.iload_n 1, 1) := by decide +kernel
theorem dX7_wrong_37 : decode cX7_wrong 37 = .ok (.iaload, 1) := by decide +kernel
theorem dX7_wrong_38 : decode cX7_wrong 38 = .ok (.invokestatic 159, 3) := by decide +kernel
theorem dX7_wrong_41 : decode cX7_wrong 41 = .ok (.ifCond .eq 7, 3) := by decide +kernel
theorem dX7_wrong_44 : decode cX7_wrong 44 = .ok (.iconst 0, 1) := by decide +kernel
theorem dX7_wrong_45 : decode cX7_wrong 45 = .ok (.goto 5, 3) := by decide +kernel
theorem dX7_wrong_48 : decode cX7_wrong 48 = .ok (.bipush (-13), 2) := by decide +kernel
theorem dX7_wrong_50 : decode cX7_wrong 50 = .ok (.ireturn, 1) := by decide +kernel
set_option maxRecDepth 20000 in
theorem ggX7_isStain_X7_yearIn : GoodIn wsX7_isStain wsX7_yearIn := goodIn_r _ [7, 8, 9, 6, 10, 11, 12, 13, 14, 15, 16, 17, 18, 19, 20, 21, 22, 23, 24, 25, 26, 27, 28, 29, 30, 31, 32, 33, 34, 35, 36, 37] (by decide +kernel) (by decide +kernel)
set_option maxRecDepth 20000 in
theorem gX7_isStain_X7_yearIn : GoodIn wsX7_isStain (wsV RX7 125 RX7 yX7_yearIn wsX7_yearIn) := goodIn_app (goodIn_of _ (by decide +kernel)) ggX7_isStain_X7_yearIn
theorem dX7_isStain_0 : decode cX7_isStain 0 = .ok (.iconst 1, 1) := by decide +kernel
theorem dX7_isStain_1 : decode cX7_isStain 1 = .ok (.istore 4, 2) := by decide +kernel
theorem dX7_isStain_3 : decode cX7_isStain 3 = .ok (.iconst 0, 1) := by decide +kernel
theorem dX7_isStain_4 : decode cX7_isStain 4 = .ok (.istore 5, 2) := by decide +kernel
theorem dX7_isStain_6 : decode cX7_isStain 6 = .ok (.iload 5, 2) := by decide +kernel
theorem dX7_isStain_8 : decode cX7_isStain 8 = .ok (.iload_n 3, 1) := by decide +kernel
theorem dX7_isStain_9 : decode cX7_isStain 9 = .ok (.if_icmp .ge 48, 3) := by decide +kernel
theorem dX7_isStain_12 : decode cX7_isStain 12 = .ok (.iload 4, 2) := by decide +kernel
theorem dX7_isStain_14 : decode cX7_isStain 14 = .ok (.ifCond .eq 43, 3) := by decide +kernel
theorem dX7_isStain_17 : decode cX7_isStain 17 = .ok (.aload_n 0, 1) := by decide +kernel
theorem dX7_isStain_18 : decode cX7_isStain 18 = .ok (.aload_n 0, 1) := by decide +kernel
theorem dX7_isStain_19 : decode cX7_isStain 19 = .ok (.getfield 26, 3) := by decide +kernel
theorem dX7_isStain_22 : decode cX7_isStain 22 = .ok (.invokevirtual 125, 3) := by decide +kernel
theorem dX7_isStain_25 : decode cX7_isStain 25 = .ok (.i2l, 1) := by decide +kernel
theorem dX7_isStain_26 : decode cX7_isStain 26 = .ok (.aload_n 0, 1) := by decide +kernel
theorem dX7_isStain_27 : decode cX7_isStain 27 = .ok (.getfield 16, 3) := by decide +kernel
theorem dX7_isStain_30 : decode cX7_isStain 30 = .ok (.bipush 24, 2) := by decide +kernel
theorem dX7_isStain_32 : decode cX7_isStain 32 = .ok (.iload_n 1, 1) := by decide +kernel
theorem dX7_isStain_33 : decode cX7_isStain 33 = .ok (.imul, 1) := by decide +kernel
theorem dX7_isStain_34 : decode cX7_isStain 34 = .ok (.iload_n 2, 1) := by decide +kernel
theorem dX7_isStain_35 : decode cX7_isStain 35 = .ok (.iadd, 1) := by decide +kernel
theorem dX7_isStain_36 : decode cX7_isStain 36 = .ok (.iload 5, 2) := by decide +kernel
theorem dX7_isStain_38 : decode cX7_isStain 38 = .ok (.iadd, 1) := by decide +kernel
theorem dX7_isStain_39 : decode cX7_isStain 39 = .ok (.laload, 1) := by decide +kernel
theorem dX7_isStain_40 : decode cX7_isStain 40 = .ok (.lcmp, 1) := by decide +kernel
theorem dX7_isStain_41 : decode cX7_isStain 41 = .ok (.ifCond .ne 7, 3) := by decide +kernel
theorem dX7_isStain_44 : decode cX7_isStain 44 = .ok (.iconst 1, 1) := by decide +kernel
theorem dX7_isStain_45 : decode cX7_isStain 45 = .ok (.goto 4, 3) := by decide +kernel
theorem dX7_isStain_48 : decode cX7_isStain 48 = .ok (.iconst 0, 1) := by decide +kernel
theorem dX7_isStain_49 : decode cX7_isStain 49 = .ok (.istore 4, 2) := by decide +kernel
theorem dX7_isStain_51 : decode cX7_isStain 51 = .ok (.iinc 5 1, 3) := by decide +kernel
theorem dX7_isStain_54 : decode cX7_isStain 54 = .ok (.goto (-48), 3) := by decide +kernel
theorem dX7_isStain_57 : decode cX7_isStain 57 = .ok (.iload 4, 2) := by decide +kernel
theorem dX7_isStain_59 : decode cX7_isStain 59 = .ok (.ireturn, 1) := by decide +kernel
set_option maxRecDepth 20000 in
theorem ggX7_stains_X7_isCoat : GoodIn wsX7_stains wsX7_isCoat := goodIn_r _ [6, 7, 8, 9, 5, 10, 54, 55, 56, 57, 58, 59, 60, 61, 62, 63, 64, 65, 66, 67, 68] (by decide +kernel) (by decide +kernel)
set_option maxRecDepth 20000 in
theorem gX7_stains_X7_isCoat : GoodIn wsX7_stains (wsV RX7 56 RX7 yX7_isCoat wsX7_isCoat) := goodIn_app (goodIn_of _ (by decide +kernel)) ggX7_stains_X7_isCoat
set_option maxRecDepth 20000 in
theorem ggX7_stains_X7_isSheet : GoodIn wsX7_stains wsX7_isSheet := goodIn_r _ [13, 8, 9, 5, 10] (by decide +kernel) (by decide +kernel)
set_option maxRecDepth 20000 in
theorem gX7_stains_X7_isSheet : GoodIn wsX7_stains (va_wsS RX7 162 yX7_isSheet wsX7_isSheet) := goodIn_app (goodIn_of _ (by decide +kernel)) ggX7_stains_X7_isSheet
set_option maxRecDepth 20000 in
theorem ggX7_stains_X7_in : GoodIn wsX7_stains wsX7_in := goodIn_r _ [10] (by decide +kernel) (by decide +kernel)
set_option maxRecDepth 20000 in
theorem gX7_stains_X7_in : GoodIn wsX7_stains (va_wsS RX7 44 yX7_in wsX7_in) := goodIn_app (goodIn_of _ (by decide +kernel)) ggX7_stains_X7_in
set_option maxRecDepth 20000 in
theorem ggX7_stains_X7_wrong : GoodIn wsX7_stains wsX7_wrong := goodIn_r _ [17, 18, 19, 20, 21, 5, 22, 54, 55, 56, 57, 58, 59, 60, 61, 62, 63, 64, 65, 66, 67, 68] (by decide +kernel) (by decide +kernel)
set_option maxRecDepth 20000 in
theorem gX7_stains_X7_wrong : GoodIn wsX7_stains (wsV RX7 165 RX7 yX7_wrong wsX7_wrong) := goodIn_app (goodIn_of _ (by decide +kernel)) ggX7_stains_X7_wrong
set_option maxRecDepth 20000 in
theorem ggX7_stains_X7_begin : GoodIn wsX7_stains wsX7_begin := goodIn_r _ [26, 7, 1, 27, 28, 5, 29, 54, 55, 56, 57, 58, 59, 60, 61, 62, 63, 64, 65, 66, 67, 68] (by decide +kernel) (by decide +kernel)
set_option maxRecDepth 20000 in
theorem gX7_stains_X7_begin : GoodIn wsX7_stains (wsV RX7 139 RX7 yX7_begin wsX7_begin) := goodIn_app (goodIn_of _ (by decide +kernel)) ggX7_stains_X7_begin
set_option maxRecDepth 20000 in
theorem ggX7_stains_X7_isStain : GoodIn wsX7_stains wsX7_isStain := goodIn_r _ [33, 1, 34, 35, 36, 37, 5, 38, 39, 40, 41, 42, 43, 44, 45, 46, 47, 48, 49, 50, 51, 52, 53, 54, 55, 56, 57, 58, 59, 60, 61, 62, 63, 64, 65, 66, 67, 68] (by decide +kernel) (by decide +kernel)
set_option maxRecDepth 20000 in
theorem gX7_stains_X7_isStain : GoodIn wsX7_stains (wsV RX7 169 RX7 yX7_isStain wsX7_isStain) := goodIn_app (goodIn_of _ (by decide +kernel)) ggX7_stains_X7_isStain
theorem dX7_stains_0 : decode cX7_stains 0 = .ok (.aload_n 0, 1) := by decide +kernel
theorem dX7_stains_1 : decode cX7_stains 1 = .ok (.iload_n 1, 1) := by decide +kernel
theorem dX7_stains_2 : decode cX7_stains 2 = .ok (.invokevirtual 56, 3) := by decide +kernel
theorem dX7_stains_5 : decode cX7_stains 5 = .ok (.ifCond .eq 40, 3) := by decide +kernel
theorem dX7_stains_8 : decode cX7_stains 8 = .ok (.iload_n 2, 1) := by decide +kernel
theorem dX7_stains_9 : decode cX7_stains 9 = .ok (.invokestatic 162, 3) := by decide +kernel
theorem dX7_stains_12 : decode cX7_stains 12 = .ok (.ifCond .eq 33, 3) := by decide +kernel
theorem dX7_stains_15 : decode cX7_stains 15 = .ok (.iload_n 3, 1) := by decide +kernel
theorem dX7_stains_16 : decode cX7_stains 16 = .ok (.iconst 0, 1) := by decide +kernel
theorem dX7_stains_17 : decode cX7_stains 17 = .ok (.iconst 3, 1) := by decide +kernel
theorem dX7_stains_18 : decode cX7_stains 18 = .ok (.invokestatic 44, 3) := by decide +kernel
theorem dX7_stains_21 : decode cX7_stains 21 = .ok (.ifCond .eq 24, 3) := by decide +kernel
theorem dX7_stains_24 : decode cX7_stains 24 = .ok (.iload 5, 2) := by decide +kernel
theorem dX7_stains_26 : decode cX7_stains 26 = .ok (.iconst 1, 1) := by decide +kernel
theorem dX7_stains_27 : decode cX7_stains 27 = .ok (.bipush 8, 2) := by decide +kernel
theorem dX7_stains_29 : decode cX7_stains 29 = .ok (.invokestatic 44, 3) := by decide +kernel
theorem dX7_stains_32 : decode cX7_stains 32 = .ok (.ifCond .eq 13, 3) := by decide +kernel
theorem dX7_stains_35 : decode cX7_stains 35 = .ok (.iload 6, 2) := by decide +kernel
theorem dX7_stains_37 : decode cX7_stains 37 = .ok (.iconst 0, 1) := by decide +kernel
theorem dX7_stains_38 : decode cX7_stains 38 = .ok (.iconst 1, 1) := by decide +kernel
theorem dX7_stains_39 : decode cX7_stains 39 = .ok (.invokestatic 44, 3) := by decide +kernel
theorem dX7_stains_42 : decode cX7_stains 42 = .ok (.ifCond .ne 5, 3) := by decide +kernel
theorem dX7_stains_45 : decode cX7_stains 45 = .ok (.iconst (-1), 1) := by decide +kernel
theorem dX7_stains_46 : decode cX7_stains 46 = .ok (.ireturn, 1) := by decide +kernel
theorem dX7_stains_47 : decode cX7_stains 47 = .ok (.aload_n 0, 1) := by decide +kernel
theorem dX7_stains_48 : decode cX7_stains 48 = .ok (.iload_n 2, 1) := by decide +kernel
theorem dX7_stains_49 : decode cX7_stains 49 = .ok (.iload_n 3, 1) := by decide +kernel
theorem dX7_stains_50 : decode cX7_stains 50 = .ok (.iload 4, 2) := by decide +kernel
theorem dX7_stains_52 : decode cX7_stains 52 = .ok (.iload 5, 2) := by decide +kernel
theorem dX7_stains_54 : decode cX7_stains 54 = .ok (.invokevirtual 165, 3) := by decide +kernel
theorem dX7_stains_57 : decode cX7_stains 57 = .ok (.istore 7, 2) := by decide +kernel
theorem dX7_stains_59 : decode cX7_stains 59 = .ok (.iload 7, 2) := by decide +kernel
theorem dX7_stains_61 : decode cX7_stains 61 = .ok (.ifCond .eq 6, 3) := by decide +kernel
theorem dX7_stains_64 : decode cX7_stains 64 = .ok (.iload 7, 2) := by decide +kernel
theorem dX7_stains_66 : decode cX7_stains 66 = .ok (.ireturn, 1) := by decide +kernel
theorem dX7_stains_67 : decode cX7_stains 67 = .ok (.iconst 0, 1) := by decide +kernel
theorem dX7_stains_68 : decode cX7_stains 68 = .ok (.istore 8, 2) := by decide +kernel
theorem dX7_stains_70 : decode cX7_stains 70 = .ok (.iload 6, 2) := by decide +kernel
theorem dX7_stains_72 : decode cX7_stains 72 = .ok (.istore 9, 2) := by decide +kernel
theorem dX7_stains_74 : decode cX7_stains 74 = .ok (.iload 9, 2) := by decide +kernel
theorem dX7_stains_76 : decode cX7_stains 76 = .ok (.iload 6, 2) := by decide +kernel
theorem dX7_stains_78 : decode cX7_stains 78 = .ok (.ifCond .ne 7, 3) := by decide +kernel
theorem dX7_stains_81 : decode cX7_stains 81 = .ok (.iconst 4, 1) := by decide +kernel
theorem dX7_stains_82 : decode cX7_stains 82 = .ok (.goto 5, 3) := by decide +kernel
theorem dX7_stains_85 : decode cX7_stains 85 = .ok (.bipush 20, 2) := by decide +kernel
theorem dX7_stains_87 : decode cX7_stains 87 = .ok (.if_icmp .gt 58, 3) := by decide +kernel
theorem dX7_stains_90 : decode cX7_stains 90 = .ok (.aload_n 0, 1) := by decide +kernel
theorem dX7_stains_91 : decode cX7_stains 91 = .ok (.invokevirtual 139, 3) := by decide +kernel
theorem dX7_stains_94 : decode cX7_stains 94 = .ok (.aload_n 0, 1) := by decide +kernel
theorem dX7_stains_95 : decode cX7_stains 95 = .ok (.getfield 26, 3) := by decide +kernel
theorem dX7_stains_98 : decode cX7_stains 98 = .ok (.iload 6, 2) := by decide +kernel
theorem dX7_stains_100 : decode cX7_stains 100 = .ok (.ifCond .ne 7, 3) := by decide +kernel
theorem dX7_stains_103 : decode cX7_stains 103 = .ok (.iconst 4, 1) := by decide +kernel
theorem dX7_stains_104 : decode cX7_stains 104 = .ok (.goto 5, 3) := by decide +kernel
theorem dX7_stains_107 : decode cX7_stains 107 = .ok (.bipush 14, 2) := by decide +kernel
theorem dX7_stains_109 : decode cX7_stains 109 = .ok (.iload_n 1, 1) := by decide +kernel
theorem dX7_stains_110 : decode cX7_stains 110 = .ok (.iadd, 1) := by decide +kernel
theorem dX7_stains_111 : decode cX7_stains 111 = .ok (.iload 9, 2) := by decide +kernel
theorem dX7_stains_113 : decode cX7_stains 113 = .ok (.iastore, 1) := by decide +kernel
theorem dX7_stains_114 : decode cX7_stains 114 = .ok (.iload 8, 2) := by decide +kernel
theorem dX7_stains_116 : decode cX7_stains 116 = .ok (.aload_n 0, 1) := by decide +kernel
theorem dX7_stains_117 : decode cX7_stains 117 = .ok (.iload_n 2, 1) := by decide +kernel
theorem dX7_stains_118 : decode cX7_stains 118 = .ok (.iload 4, 2) := by decide +kernel
theorem dX7_stains_120 : decode cX7_stains 120 = .ok (.iload 5, 2) := by decide +kernel
theorem dX7_stains_122 : decode cX7_stains 122 = .ok (.invokevirtual 169, 3) := by decide +kernel
theorem dX7_stains_125 : decode cX7_stains 125 = .ok (.ifCond .eq 10, 3) := by decide +kernel
theorem dX7_stains_128 : decode cX7_stains 128 = .ok (.iconst 1, 1) := by decide +kernel
theorem dX7_stains_129 : decode cX7_stains 129 = .ok (.iload 9, 2) := by decide +kernel
theorem dX7_stains_131 : decode cX7_stains 131 = .ok (.ishl, 1) := by decide +kernel
theorem dX7_stains_132 : decode cX7_stains 132 = .ok (.goto 4, 3) := by decide +kernel
theorem dX7_stains_135 : decode cX7_stains 135 = .ok (.iconst 0, 1) := by decide +kernel
theorem dX7_stains_136 : decode cX7_stains 136 = .ok (.ior, 1) := by decide +kernel
theorem dX7_stains_137 : decode cX7_stains 137 = .ok (.istore 8, 2) := by decide +kernel
theorem dX7_stains_139 : decode cX7_stains 139 = .ok (.iinc 9 1, 3) := by decide +kernel
theorem dX7_stains_142 : decode cX7_stains 142 = .ok (.goto (-68), 3) := by decide +kernel
theorem dX7_stains_145 : decode cX7_stains 145 = .ok (.iload 8, 2) := by decide +kernel
theorem dX7_stains_147 : decode cX7_stains 147 = .ok (.ireturn, 1) := by decide +kernel
theorem dX7_cutTo_0 : decode cX7_cutTo 0 = .ok (.iload_n 0, 1) := by decide +kernel
theorem dX7_cutTo_1 : decode cX7_cutTo 1 = .ok (.ifCond .ne 10, 3) := by decide +kernel
theorem dX7_cutTo_4 : decode cX7_cutTo 4 = .ok (.lload_n 1, 1) := by decide +kernel
theorem dX7_cutTo_5 : decode cX7_cutTo 5 = .ok (.l2i, 1) := by decide +kernel
theorem dX7_cutTo_6 : decode cX7_cutTo 6 = .ok (.i2b, 1) := by decide +kernel
theorem dX7_cutTo_7 : decode cX7_cutTo 7 = .ok (.i2l, 1) := by decide +kernel
theorem dX7_cutTo_8 : decode cX7_cutTo 8 = .ok (.goto 27, 3) := by decide +kernel
theorem dX7_cutTo_11 : decode cX7_cutTo 11 = .ok (.iload_n 0, 1) := by decide +kernel
theorem dX7_cutTo_12 : decode cX7_cutTo 12 = .ok (.iconst 1, 1) := by decide +kernel
theorem dX7_cutTo_13 : decode cX7_cutTo 13 = .ok (.if_icmp .ne 10, 3) := by decide +kernel
theorem dX7_cutTo_16 : decode cX7_cutTo 16 = .ok (.lload_n 1, 1) := by decide +kernel
theorem dX7_cutTo_17 : decode cX7_cutTo 17 = .ok (.l2i, 1) := by decide +kernel
theorem dX7_cutTo_18 : decode cX7_cutTo 18 = .ok (.i2s, 1) := by decide +kernel
theorem dX7_cutTo_19 : decode cX7_cutTo 19 = .ok (.i2l, 1) := by decide +kernel
theorem dX7_cutTo_20 : decode cX7_cutTo 20 = .ok (.goto 15, 3) := by decide +kernel
theorem dX7_cutTo_23 : decode cX7_cutTo 23 = .ok (.iload_n 0, 1) := by decide +kernel
theorem dX7_cutTo_24 : decode cX7_cutTo 24 = .ok (.iconst 2, 1) := by decide +kernel
theorem dX7_cutTo_25 : decode cX7_cutTo 25 = .ok (.if_icmp .ne 9, 3) := by decide +kernel
theorem dX7_cutTo_28 : decode cX7_cutTo 28 = .ok (.lload_n 1, 1) := by decide +kernel
theorem dX7_cutTo_29 : decode cX7_cutTo 29 = .ok (.l2i, 1) := by decide +kernel
theorem dX7_cutTo_30 : decode cX7_cutTo 30 = .ok (.i2l, 1) := by decide +kernel
theorem dX7_cutTo_31 : decode cX7_cutTo 31 = .ok (.goto 4, 3) := by decide +kernel
theorem dX7_cutTo_34 : decode cX7_cutTo 34 = .ok (.lload_n 1, 1) := by decide +kernel
theorem dX7_cutTo_35 : decode cX7_cutTo 35 = .ok (.lreturn, 1) := by decide +kernel
set_option maxRecDepth 20000 in
theorem ggX7_film_X7_in : GoodIn wsX7_film wsX7_in := goodIn_r _ [6] (by decide +kernel) (by decide +kernel)
set_option maxRecDepth 20000 in
theorem gX7_film_X7_in : GoodIn wsX7_film (va_wsS RX7 44 yX7_in wsX7_in) := goodIn_app (goodIn_of _ (by decide +kernel)) ggX7_film_X7_in
set_option maxRecDepth 20000 in
theorem ggX7_film_X7_isSheet : GoodIn wsX7_film wsX7_isSheet := goodIn_r _ [9, 3, 4, 5, 6] (by decide +kernel) (by decide +kernel)
set_option maxRecDepth 20000 in
theorem gX7_film_X7_isSheet : GoodIn wsX7_film (va_wsS RX7 162 yX7_isSheet wsX7_isSheet) := goodIn_app (goodIn_of _ (by decide +kernel)) ggX7_film_X7_isSheet
set_option maxRecDepth 20000 in
theorem ggX7_film_X7_wrong : GoodIn wsX7_film wsX7_wrong := goodIn_r _ [13, 14, 15, 16, 17, 5, 18, 49, 50, 51, 52, 53, 54, 55, 56, 57, 58, 59, 60, 61, 62, 63] (by decide +kernel) (by decide +kernel)
set_option maxRecDepth 20000 in
theorem gX7_film_X7_wrong : GoodIn wsX7_film (wsV RX7 165 RX7 yX7_wrong wsX7_wrong) := goodIn_app (goodIn_of _ (by decide +kernel)) ggX7_film_X7_wrong
set_option maxRecDepth 20000 in
theorem ggX7_film_X7_begin : GoodIn wsX7_film wsX7_begin := goodIn_r _ [22, 23, 2, 24, 25, 5, 26, 49, 50, 51, 52, 53, 54, 55, 56, 57, 58, 59, 60, 61, 62, 63] (by decide +kernel) (by decide +kernel)
set_option maxRecDepth 20000 in
theorem gX7_film_X7_begin : GoodIn wsX7_film (wsV RX7 139 RX7 yX7_begin wsX7_begin) := goodIn_app (goodIn_of _ (by decide +kernel)) ggX7_film_X7_begin
set_option maxRecDepth 20000 in
theorem ggX7_film_X7_yearIn : GoodIn wsX7_film wsX7_yearIn := goodIn_r _ [30, 31, 32, 5, 33, 34, 35, 36, 37, 38, 39, 40, 41, 42, 43, 44, 45, 49, 50, 51, 52, 53, 54, 55, 56, 57, 58, 59, 60, 61, 62, 63] (by decide +kernel) (by decide +kernel)
set_option maxRecDepth 20000 in
theorem gX7_film_X7_yearIn : GoodIn wsX7_film (wsV RX7 125 RX7 yX7_yearIn wsX7_yearIn) := goodIn_app (goodIn_of _ (by decide +kernel)) ggX7_film_X7_yearIn
set_option maxRecDepth 20000 in
theorem ggX7_film_X7_cutTo : GoodIn wsX7_film wsX7_cutTo := goodIn_r _ [48] (by decide +kernel) (by decide +kernel)
set_option maxRecDepth 20000 in
theorem gX7_film_X7_cutTo : GoodIn wsX7_film (va_wsS RX7 172 yX7_cutTo wsX7_cutTo) := goodIn_app (goodIn_of _ (by decide +kernel)) ggX7_film_X7_cutTo
theorem dX7_film_0 : decode cX7_film 0 = .ok (.iload_n 1, 1) := by decide +kernel
theorem dX7_film_1 : decode cX7_film 1 = .ok (.iconst 1, 1) := by decide +kernel
theorem dX7_film_2 : decode cX7_film 2 = .ok (.bipush 24, 2) := by decide +kernel
theorem dX7_film_4 : decode cX7_film 4 = .ok (.invokestatic 44, 3) := by decide +kernel
theorem dX7_film_7 : decode cX7_film 7 = .ok (.ifCond .eq 19, 3) := by decide +kernel
theorem dX7_film_10 : decode cX7_film 10 = .ok (.iload_n 2, 1) := by decide +kernel
theorem dX7_film_11 : decode cX7_film 11 = .ok (.invokestatic 162, 3) := by decide +kernel
theorem dX7_film_14 : decode cX7_film 14 = .ok (.ifCond .eq 12, 3) := by decide +kernel
theorem dX7_film_17 : decode cX7_film 17 = .ok (.iload_n 3, 1) := by decide +kernel
theorem dX7_film_18 : decode cX7_film 18 = .ok (.iconst 0, 1) := by decide +kernel
theorem dX7_film_19 : decode cX7_film 19 = .ok (.iconst 3, 1) := by decide +kernel
theorem dX7_film_20 : decode cX7_film 20 = .ok (.invokestatic 44, 3) := by decide +kernel
theorem dX7_film_23 : decode cX7_film 23 = .ok (.ifCond .ne 5, 3) := by decide +kernel
theorem dX7_film_26 : decode cX7_film 26 = .ok (.iconst (-1), 1) := by decide +kernel
theorem dX7_film_27 : decode cX7_film 27 = .ok (.ireturn, 1) := by decide +kernel
theorem dX7_film_28 : decode cX7_film 28 = .ok (.aload_n 0, 1) := by decide +kernel
theorem dX7_film_29 : decode cX7_film 29 = .ok (.iload_n 2, 1) := by decide +kernel
theorem dX7_film_30 : decode cX7_film 30 = .ok (.iload_n 3, 1) := by decide +kernel
theorem dX7_film_31 : decode cX7_film 31 = .ok (.iload 4, 2) := by decide +kernel
theorem dX7_film_33 : decode cX7_film 33 = .ok (.iload_n 1, 1) := by decide +kernel
theorem dX7_film_34 : decode cX7_film 34 = .ok (.invokevirtual 165, 3) := by decide +kernel
theorem dX7_film_37 : decode cX7_film 37 = .ok (.istore 5, 2) := by decide +kernel
theorem dX7_film_39 : decode cX7_film 39 = .ok (.iload 5, 2) := by decide +kernel
theorem dX7_film_41 : decode cX7_film 41 = .ok (.ifCond .eq 6, 3) := by decide +kernel
theorem dX7_film_44 : decode cX7_film 44 = .ok (.iload 5, 2) := by decide +kernel
theorem dX7_film_46 : decode cX7_film 46 = .ok (.ireturn, 1) := by decide +kernel
theorem dX7_film_47 : decode cX7_film 47 = .ok (.aload_n 0, 1) := by decide +kernel
theorem dX7_film_48 : decode cX7_film 48 = .ok (.invokevirtual 139, 3) := by decide +kernel
theorem dX7_film_51 : decode cX7_film 51 = .ok (.iconst 0, 1) := by decide +kernel
theorem dX7_film_52 : decode cX7_film 52 = .ok (.istore 6, 2) := by decide +kernel
theorem dX7_film_54 : decode cX7_film 54 = .ok (.iload 6, 2) := by decide +kernel
theorem dX7_film_56 : decode cX7_film 56 = .ok (.iload_n 1, 1) := by decide +kernel
theorem dX7_film_57 : decode cX7_film 57 = .ok (.if_icmp .ge 37, 3) := by decide +kernel
theorem dX7_film_60 : decode cX7_film 60 = .ok (.aload_n 0, 1) := by decide +kernel
theorem dX7_film_61 : decode cX7_film 61 = .ok (.getfield 16, 3) := by decide +kernel
theorem dX7_film_64 : decode cX7_film 64 = .ok (.bipush 24, 2) := by decide +kernel
theorem dX7_film_66 : decode cX7_film 66 = .ok (.iload_n 2, 1) := by decide +kernel
theorem dX7_film_67 : decode cX7_film 67 = .ok (.imul, 1) := by decide +kernel
theorem dX7_film_68 : decode cX7_film 68 = .ok (.iload 4, 2) := by decide +kernel
theorem dX7_film_70 : decode cX7_film 70 = .ok (.iadd, 1) := by decide +kernel
theorem dX7_film_71 : decode cX7_film 71 = .ok (.iload 6, 2) := by decide +kernel
theorem dX7_film_73 : decode cX7_film 73 = .ok (.iadd, 1) := by decide +kernel
theorem dX7_film_74 : decode cX7_film 74 = .ok (.iload_n 3, 1) := by decide +kernel
theorem dX7_film_75 : decode cX7_film 75 = .ok (.aload_n 0, 1) := by decide +kernel
theorem dX7_film_76 : decode cX7_film 76 = .ok (.aload_n 0, 1) := by decide +kernel
theorem dX7_film_77 : decode cX7_film 77 = .ok (.getfield 26, 3) := by decide +kernel
theorem dX7_film_80 : decode cX7_film 80 = .ok (.invokevirtual 125, 3) := by decide +kernel
theorem dX7_film_83 : decode cX7_film 83 = .ok (.i2l, 1) := by decide +kernel
theorem dX7_film_84 : decode cX7_film 84 = .ok (.invokestatic 172, 3) := by decide +kernel
theorem dX7_film_87 : decode cX7_film 87 = .ok (.lastore, 1) := by decide +kernel
theorem dX7_film_88 : decode cX7_film 88 = .ok (.iinc 6 1, 3) := by decide +kernel
theorem dX7_film_91 : decode cX7_film 91 = .ok (.goto (-37), 3) := by decide +kernel
theorem dX7_film_94 : decode cX7_film 94 = .ok (.iload_n 1, 1) := by decide +kernel
theorem dX7_film_95 : decode cX7_film 95 = .ok (.ireturn, 1) := by decide +kernel
set_option maxRecDepth 20000 in
theorem ggX7_sheet_X7_isSheet : GoodIn wsX7_sheet wsX7_isSheet := goodIn_r _ [7, 8, 9, 6, 10] (by decide +kernel) (by decide +kernel)
set_option maxRecDepth 20000 in
theorem gX7_sheet_X7_isSheet : GoodIn wsX7_sheet (va_wsS RX7 162 yX7_isSheet wsX7_isSheet) := goodIn_app (goodIn_of _ (by decide +kernel)) ggX7_sheet_X7_isSheet
set_option maxRecDepth 20000 in
theorem ggX7_sheet_X7_in : GoodIn wsX7_sheet wsX7_in := goodIn_r _ [10] (by decide +kernel) (by decide +kernel)
set_option maxRecDepth 20000 in
theorem gX7_sheet_X7_in : GoodIn wsX7_sheet (va_wsS RX7 44 yX7_in wsX7_in) := goodIn_app (goodIn_of _ (by decide +kernel)) ggX7_sheet_X7_in
theorem dX7_sheet_0 : decode cX7_sheet 0 = .ok (.iload_n 1, 1) := by decide +kernel
theorem dX7_sheet_1 : decode cX7_sheet 1 = .ok (.invokestatic 162, 3) := by decide +kernel
theorem dX7_sheet_4 : decode cX7_sheet 4 = .ok (.ifCond .eq 18, 3) := by decide +kernel
theorem dX7_sheet_7 : decode cX7_sheet 7 = .ok (.iload_n 2, 1) := by decide +kernel
theorem dX7_sheet_8 : decode cX7_sheet 8 = .ok (.iconst 0, 1) := by decide +kernel
theorem dX7_sheet_9 : decode cX7_sheet 9 = .ok (.iconst 3, 1) := by decide +kernel
theorem dX7_sheet_10 : decode cX7_sheet 10 = .ok (.invokestatic 44, 3) := by decide +kernel
theorem dX7_sheet_13 : decode cX7_sheet 13 = .ok (.ifCond .eq 9, 3) := by decide +kernel
theorem dX7_sheet_16 : decode cX7_sheet 16 = .ok (.iload_n 3, 1) := by decide +kernel
theorem dX7_sheet_17 : decode cX7_sheet 17 = .ok (.bipush 24, 2) := by decide +kernel
theorem dX7_sheet_19 : decode cX7_sheet 19 = .ok (.if_icmp .le 5, 3) := by decide +kernel
theorem dX7_sheet_22 : decode cX7_sheet 22 = .ok (.iconst (-1), 1) := by decide +kernel
theorem dX7_sheet_23 : decode cX7_sheet 23 = .ok (.ireturn, 1) := by decide +kernel
theorem dX7_sheet_24 : decode cX7_sheet 24 = .ok (.iload_n 3, 1) := by decide +kernel
theorem dX7_sheet_25 : decode cX7_sheet 25 = .ok (.ifCond .ge 6, 3) := by decide +kernel
theorem dX7_sheet_28 : decode cX7_sheet 28 = .ok (.bipush (-14), 2) := by decide +kernel
theorem dX7_sheet_30 : decode cX7_sheet 30 = .ok (.ireturn, 1) := by decide +kernel
theorem dX7_sheet_31 : decode cX7_sheet 31 = .ok (.aload_n 0, 1) := by decide +kernel
theorem dX7_sheet_32 : decode cX7_sheet 32 = .ok (.getfield 7, 3) := by decide +kernel
theorem dX7_sheet_35 : decode cX7_sheet 35 = .ok (.iload_n 1, 1) := by decide +kernel
theorem dX7_sheet_36 : decode cX7_sheet 36 = .ok (.iload_n 2, 1) := by decide +kernel
theorem dX7_sheet_37 : decode cX7_sheet 37 = .ok (.iastore, 1) := by decide +kernel
theorem dX7_sheet_38 : decode cX7_sheet 38 = .ok (.aload_n 0, 1) := by decide +kernel
theorem dX7_sheet_39 : decode cX7_sheet 39 = .ok (.getfield 13, 3) := by decide +kernel
theorem dX7_sheet_42 : decode cX7_sheet 42 = .ok (.iload_n 1, 1) := by decide +kernel
theorem dX7_sheet_43 : decode cX7_sheet 43 = .ok (.iload_n 3, 1) := by decide +kernel
theorem dX7_sheet_44 : decode cX7_sheet 44 = .ok (.iastore, 1) := by decide +kernel
theorem dX7_sheet_45 : decode cX7_sheet 45 = .ok (.iconst 0, 1) := by decide +kernel
theorem dX7_sheet_46 : decode cX7_sheet 46 = .ok (.istore 4, 2) := by decide +kernel
theorem dX7_sheet_48 : decode cX7_sheet 48 = .ok (.iload 4, 2) := by decide +kernel
theorem dX7_sheet_50 : decode cX7_sheet 50 = .ok (.bipush 24, 2) := by decide +kernel
theorem dX7_sheet_52 : decode cX7_sheet 52 = .ok (.if_icmp .ge 22, 3) := by decide +kernel
theorem dX7_sheet_55 : decode cX7_sheet 55 = .ok (.aload_n 0, 1) := by decide +kernel
theorem dX7_sheet_56 : decode cX7_sheet 56 = .ok (.getfield 16, 3) := by decide +kernel
theorem dX7_sheet_59 : decode cX7_sheet 59 = .ok (.bipush 24, 2) := by decide +kernel
theorem dX7_sheet_61 : decode cX7_sheet 61 = .ok (.iload_n 1, 1) := by decide +kernel
theorem dX7_sheet_62 : decode cX7_sheet 62 = .ok (.imul, 1) := by decide +kernel
theorem dX7_sheet_63 : decode cX7_sheet 63 = .ok (.iload 4, 2) := by decide +kernel
theorem dX7_sheet_65 : decode cX7_sheet 65 = .ok (.iadd, 1) := by decide +kernel
theorem dX7_sheet_66 : decode cX7_sheet 66 = .ok (.lconst 0, 1) := by decide +kernel
theorem dX7_sheet_67 : decode cX7_sheet 67 = .ok (.lastore, 1) := by decide +kernel
theorem dX7_sheet_68 : decode cX7_sheet 68 = .ok (.iinc 4 1, 3) := by decide +kernel
theorem dX7_sheet_71 : decode cX7_sheet 71 = .ok (.goto (-23), 3) := by decide +kernel
theorem dX7_sheet_74 : decode cX7_sheet 74 = .ok (.iload_n 3, 1) := by decide +kernel
theorem dX7_sheet_75 : decode cX7_sheet 75 = .ok (.ireturn, 1) := by decide +kernel
set_option maxRecDepth 20000 in
theorem ggX7_drop_X7_isSheet : GoodIn wsX7_drop wsX7_isSheet := goodIn_r _ [6, 7, 8, 5, 9] (by decide +kernel) (by decide +kernel)
set_option maxRecDepth 20000 in
theorem gX7_drop_X7_isSheet : GoodIn wsX7_drop (va_wsS RX7 162 yX7_isSheet wsX7_isSheet) := goodIn_app (goodIn_of _ (by decide +kernel)) ggX7_drop_X7_isSheet
theorem dX7_drop_0 : decode cX7_drop 0 = .ok (.iload_n 1, 1) := by decide +kernel
theorem dX7_drop_1 : decode cX7_drop 1 = .ok (.invokestatic 162, 3) := by decide +kernel
theorem dX7_drop_4 : decode cX7_drop 4 = .ok (.ifCond .ne 5, 3) := by decide +kernel
theorem dX7_drop_7 : decode cX7_drop 7 = .ok (.iconst (-1), 1) := by decide +kernel
theorem dX7_drop_8 : decode cX7_drop 8 = .ok (.ireturn, 1) := by decide +kernel
theorem dX7_drop_9 : decode cX7_drop 9 = .ok (.aload_n 0, 1) := by decide +kernel
theorem dX7_drop_10 : decode cX7_drop 10 = .ok (.getfield 7, 3) := by decide +kernel
theorem dX7_drop_13 : decode cX7_drop 13 = .ok (.iload_n 1, 1) := by decide +kernel
theorem dX7_drop_14 : decode cX7_drop 14 = .ok (.iaload, 1) := by decide +kernel
theorem dX7_drop_15 : decode cX7_drop 15 = .ok (.ifCond .ge 6, 3) := by decide +kernel
theorem dX7_drop_18 : decode cX7_drop 18 = .ok (.bipush (-11), 2) := by decide +kernel
theorem dX7_drop_20 : decode cX7_drop 20 = .ok (.ireturn, 1) := by decide +kernel
theorem dX7_drop_21 : decode cX7_drop 21 = .ok (.aload_n 0, 1) := by decide +kernel
theorem dX7_drop_22 : decode cX7_drop 22 = .ok (.getfield 7, 3) := by decide +kernel
theorem dX7_drop_25 : decode cX7_drop 25 = .ok (.iload_n 1, 1) := by decide +kernel
theorem dX7_drop_26 : decode cX7_drop 26 = .ok (.iconst (-1), 1) := by decide +kernel
theorem dX7_drop_27 : decode cX7_drop 27 = .ok (.iastore, 1) := by decide +kernel
theorem dX7_drop_28 : decode cX7_drop 28 = .ok (.aload_n 0, 1) := by decide +kernel
theorem dX7_drop_29 : decode cX7_drop 29 = .ok (.getfield 13, 3) := by decide +kernel
theorem dX7_drop_32 : decode cX7_drop 32 = .ok (.iload_n 1, 1) := by decide +kernel
theorem dX7_drop_33 : decode cX7_drop 33 = .ok (.iaload, 1) := by decide +kernel
theorem dX7_drop_34 : decode cX7_drop 34 = .ok (.ireturn, 1) := by decide +kernel
set_option maxRecDepth 20000 in
theorem ggX7_item_X7_isSheet : GoodIn wsX7_item wsX7_isSheet := goodIn_r _ [5, 6, 7, 4, 8] (by decide +kernel) (by decide +kernel)
set_option maxRecDepth 20000 in
theorem gX7_item_X7_isSheet : GoodIn wsX7_item (va_wsS RX7 162 yX7_isSheet wsX7_isSheet) := goodIn_app (goodIn_of _ (by decide +kernel)) ggX7_item_X7_isSheet
set_option maxRecDepth 20000 in
theorem ggX7_item_X7_in : GoodIn wsX7_item wsX7_in := goodIn_r _ [8] (by decide +kernel) (by decide +kernel)
set_option maxRecDepth 20000 in
theorem gX7_item_X7_in : GoodIn wsX7_item (va_wsS RX7 44 yX7_in wsX7_in) := goodIn_app (goodIn_of _ (by decide +kernel)) ggX7_item_X7_in
set_option maxRecDepth 20000 in
theorem ggX7_item_X7_wrong : GoodIn wsX7_item wsX7_wrong := goodIn_r _ [12, 13, 14, 15, 16, 4, 17, 18, 19, 20, 21, 22, 23, 24, 25, 26, 27, 28, 29, 30, 31, 32] (by decide +kernel) (by decide +kernel)
set_option maxRecDepth 20000 in
theorem gX7_item_X7_wrong : GoodIn wsX7_item (wsV RX7 165 RX7 yX7_wrong wsX7_wrong) := goodIn_app (goodIn_of _ (by decide +kernel)) ggX7_item_X7_wrong
theorem dX7_item_0 : decode cX7_item 0 = .ok (.iload_n 1, 1) := by decide +kernel
theorem dX7_item_1 : decode cX7_item 1 = .ok (.invokestatic 162, 3) := by decide +kernel
theorem dX7_item_4 : decode cX7_item 4 = .ok (.ifCond .eq 12, 3) := by decide +kernel
theorem dX7_item_7 : decode cX7_item 7 = .ok (.iload_n 2, 1) := by decide +kernel
theorem dX7_item_8 : decode cX7_item 8 = .ok (.iconst 0, 1) := by decide +kernel
theorem dX7_item_9 : decode cX7_item 9 = .ok (.iconst 3, 1) := by decide +kernel
theorem dX7_item_10 : decode cX7_item 10 = .ok (.invokestatic 44, 3) := by decide +kernel
theorem dX7_item_13 : decode cX7_item 13 = .ok (.ifCond .ne 5, 3) := by decide +kernel
theorem dX7_item_16 : decode cX7_item 16 = .ok (.iconst (-1), 1) := by decide +kernel
theorem dX7_item_17 : decode cX7_item 17 = .ok (.ireturn, 1) := by decide +kernel
theorem dX7_item_18 : decode cX7_item 18 = .ok (.aload_n 0, 1) := by decide +kernel
theorem dX7_item_19 : decode cX7_item 19 = .ok (.iload_n 1, 1) := by decide +kernel
theorem dX7_item_20 : decode cX7_item 20 = .ok (.iload_n 2, 1) := by decide +kernel
theorem dX7_item_21 : decode cX7_item 21 = .ok (.iload_n 3, 1) := by decide +kernel
theorem dX7_item_22 : decode cX7_item 22 = .ok (.iconst 1, 1) := by decide +kernel
theorem dX7_item_23 : decode cX7_item 23 = .ok (.invokevirtual 165, 3) := by decide +kernel
theorem dX7_item_26 : decode cX7_item 26 = .ok (.istore 6, 2) := by decide +kernel
theorem dX7_item_28 : decode cX7_item 28 = .ok (.iload 6, 2) := by decide +kernel
theorem dX7_item_30 : decode cX7_item 30 = .ok (.ifCond .eq 6, 3) := by decide +kernel
theorem dX7_item_33 : decode cX7_item 33 = .ok (.iload 6, 2) := by decide +kernel
theorem dX7_item_35 : decode cX7_item 35 = .ok (.ireturn, 1) := by decide +kernel
theorem dX7_item_36 : decode cX7_item 36 = .ok (.aload_n 0, 1) := by decide +kernel
theorem dX7_item_37 : decode cX7_item 37 = .ok (.getfield 16, 3) := by decide +kernel
theorem dX7_item_40 : decode cX7_item 40 = .ok (.bipush 24, 2) := by decide +kernel
theorem dX7_item_42 : decode cX7_item 42 = .ok (.iload_n 1, 1) := by decide +kernel
theorem dX7_item_43 : decode cX7_item 43 = .ok (.imul, 1) := by decide +kernel
theorem dX7_item_44 : decode cX7_item 44 = .ok (.iload_n 3, 1) := by decide +kernel
theorem dX7_item_45 : decode cX7_item 45 = .ok (.iadd, 1) := by decide +kernel
theorem dX7_item_46 : decode cX7_item 46 = .ok (.iload_n 2, 1) := by decide +kernel
theorem dX7_item_47 : decode cX7_item 47 = .ok (.ifCond .ne 11, 3) := by decide +kernel
theorem dX7_item_50 : decode cX7_item 50 = .ok (.lload 4, 2) := by decide +kernel
theorem dX7_item_52 : decode cX7_item 52 = .ok (.l2i, 1) := by decide +kernel
theorem dX7_item_53 : decode cX7_item 53 = .ok (.i2b, 1) := by decide +kernel
theorem dX7_item_54 : decode cX7_item 54 = .ok (.i2l, 1) := by decide +kernel
theorem dX7_item_55 : decode cX7_item 55 = .ok (.goto 30, 3) := by decide +kernel
theorem dX7_item_58 : decode cX7_item 58 = .ok (.iload_n 2, 1) := by decide +kernel
theorem dX7_item_59 : decode cX7_item 59 = .ok (.iconst 1, 1) := by decide +kernel
theorem dX7_item_60 : decode cX7_item 60 = .ok (.if_icmp .ne 11, 3) := by decide +kernel
theorem dX7_item_63 : decode cX7_item 63 = .ok (.lload 4, 2) := by decide +kernel
theorem dX7_item_65 : decode cX7_item 65 = .ok (.l2i, 1) := by decide +kernel
theorem dX7_item_66 : decode cX7_item 66 = .ok (.i2s, 1) := by decide +kernel
theorem dX7_item_67 : decode cX7_item 67 = .ok (.i2l, 1) := by decide +kernel
theorem dX7_item_68 : decode cX7_item 68 = .ok (.goto 17, 3) := by decide +kernel
theorem dX7_item_71 : decode cX7_item 71 = .ok (.iload_n 2, 1) := by decide +kernel
theorem dX7_item_72 : decode cX7_item 72 = .ok (.iconst 2, 1) := by decide +kernel
theorem dX7_item_73 : decode cX7_item 73 = .ok (.if_icmp .ne 10, 3) := by decide +kernel
theorem dX7_item_76 : decode cX7_item 76 = .ok (.lload 4, 2) := by decide +kernel
theorem dX7_item_78 : decode cX7_item 78 = .ok (.l2i, 1) := by decide +kernel
theorem dX7_item_79 : decode cX7_item 79 = .ok (.i2l, 1) := by decide +kernel
theorem dX7_item_80 : decode cX7_item 80 = .ok (.goto 5, 3) := by decide +kernel
theorem dX7_item_83 : decode cX7_item 83 = .ok (.lload 4, 2) := by decide +kernel
theorem dX7_item_85 : decode cX7_item 85 = .ok (.lastore, 1) := by decide +kernel
theorem dX7_item_86 : decode cX7_item 86 = .ok (.iconst 1, 1) := by decide +kernel
theorem dX7_item_87 : decode cX7_item 87 = .ok (.ireturn, 1) := by decide +kernel
set_option maxRecDepth 20000 in
theorem ggX7_copy_X7_isSheet : GoodIn wsX7_copy wsX7_isSheet := goodIn_r _ [7, 8, 9, 6, 10] (by decide +kernel) (by decide +kernel)
set_option maxRecDepth 20000 in
theorem gX7_copy_X7_isSheet : GoodIn wsX7_copy (va_wsS RX7 162 yX7_isSheet wsX7_isSheet) := goodIn_app (goodIn_of _ (by decide +kernel)) ggX7_copy_X7_isSheet
set_option maxRecDepth 20000 in
theorem ggX7_copy_X7_isPart : GoodIn wsX7_copy wsX7_isPart := goodIn_r _ [13] (by decide +kernel) (by decide +kernel)
set_option maxRecDepth 20000 in
theorem gX7_copy_X7_isPart : GoodIn wsX7_copy (va_wsS RX7 159 yX7_isPart wsX7_isPart) := goodIn_app (goodIn_of _ (by decide +kernel)) ggX7_copy_X7_isPart
theorem dX7_copy_0 : decode cX7_copy 0 = .ok (.iload_n 1, 1) := by decide +kernel
theorem dX7_copy_1 : decode cX7_copy 1 = .ok (.invokestatic 162, 3) := by decide +kernel
theorem dX7_copy_4 : decode cX7_copy 4 = .ok (.ifCond .eq 10, 3) := by decide +kernel
theorem dX7_copy_7 : decode cX7_copy 7 = .ok (.iload_n 3, 1) := by decide +kernel
theorem dX7_copy_8 : decode cX7_copy 8 = .ok (.invokestatic 162, 3) := by decide +kernel
theorem dX7_copy_11 : decode cX7_copy 11 = .ok (.ifCond .ne 5, 3) := by decide +kernel
theorem dX7_copy_14 : decode cX7_copy 14 = .ok (.iconst (-1), 1) := by decide +kernel
theorem dX7_copy_15 : decode cX7_copy 15 = .ok (.ireturn, 1) := by decide +kernel
theorem dX7_copy_16 : decode cX7_copy 16 = .ok (.aload_n 0, 1) := by decide +kernel
theorem dX7_copy_17 : decode cX7_copy 17 = .ok (.getfield 7, 3) := by decide +kernel
theorem dX7_copy_20 : decode cX7_copy 20 = .ok (.iload_n 1, 1) := by decide +kernel
theorem dX7_copy_21 : decode cX7_copy 21 = .ok (.iaload, 1) := by decide +kernel
theorem dX7_copy_22 : decode cX7_copy 22 = .ok (.ifCond .lt 12, 3) := by decide +kernel
theorem dX7_copy_25 : decode cX7_copy 25 = .ok (.aload_n 0, 1) := by decide +kernel
theorem dX7_copy_26 : decode cX7_copy 26 = .ok (.getfield 7, 3) := by decide +kernel
theorem dX7_copy_29 : decode cX7_copy 29 = .ok (.iload_n 3, 1) := by decide +kernel
theorem dX7_copy_30 : decode cX7_copy 30 = .ok (.iaload, 1) := by decide +kernel
theorem dX7_copy_31 : decode cX7_copy 31 = .ok (.ifCond .ge 6, 3) := by decide +kernel
theorem dX7_copy_34 : decode cX7_copy 34 = .ok (.bipush (-11), 2) := by decide +kernel
theorem dX7_copy_36 : decode cX7_copy 36 = .ok (.ireturn, 1) := by decide +kernel
theorem dX7_copy_37 : decode cX7_copy 37 = .ok (.aload_n 0, 1) := by decide +kernel
theorem dX7_copy_38 : decode cX7_copy 38 = .ok (.getfield 7, 3) := by decide +kernel
theorem dX7_copy_41 : decode cX7_copy 41 = .ok (.iload_n 1, 1) := by decide +kernel
theorem dX7_copy_42 : decode cX7_copy 42 = .ok (.iaload, 1) := by decide +kernel
theorem dX7_copy_43 : decode cX7_copy 43 = .ok (.aload_n 0, 1) := by decide +kernel
theorem dX7_copy_44 : decode cX7_copy 44 = .ok (.getfield 7, 3) := by decide +kernel
theorem dX7_copy_47 : decode cX7_copy 47 = .ok (.iload_n 3, 1) := by decide +kernel
theorem dX7_copy_48 : decode cX7_copy 48 = .ok (.iaload, 1) := by decide +kernel
theorem dX7_copy_49 : decode cX7_copy 49 = .ok (.if_icmp .eq 6, 3) := by decide +kernel
theorem dX7_copy_52 : decode cX7_copy 52 = .ok (.bipush (-12), 2) := by decide +kernel
theorem dX7_copy_54 : decode cX7_copy 54 = .ok (.ireturn, 1) := by decide +kernel
theorem dX7_copy_55 : decode cX7_copy 55 = .ok (.iload_n 2, 1) := by decide +kernel
theorem dX7_copy_56 : decode cX7_copy 56 = .ok (.iload 5, 2) := by decide +kernel
theorem dX7_copy_58 : decode cX7_copy 58 = .ok (.aload_n 0, 1) := by decide +kernel
theorem dX7_copy_59 : decode cX7_copy 59 = .ok (.getfield 13, 3) := by decide +kernel
theorem dX7_copy_62 : decode cX7_copy 62 = .ok (.iload_n 1, 1) := by decide +kernel
theorem dX7_copy_63 : decode cX7_copy 63 = .ok (.iaload, 1) := by decide +kernel
theorem dX7_copy_64 : decode cX7_copy 64 = .ok (.invokestatic 159, 3) := by decide +kernel
theorem dX7_copy_67 : decode cX7_copy 67 = .ok (.ifCond .eq 19, 3) := by decide +kernel
theorem dX7_copy_70 : decode cX7_copy 70 = .ok (.iload 4, 2) := by decide +kernel
theorem dX7_copy_72 : decode cX7_copy 72 = .ok (.iload 5, 2) := by decide +kernel
theorem dX7_copy_74 : decode cX7_copy 74 = .ok (.aload_n 0, 1) := by decide +kernel
theorem dX7_copy_75 : decode cX7_copy 75 = .ok (.getfield 13, 3) := by decide +kernel
theorem dX7_copy_78 : decode cX7_copy 78 = .ok (.iload_n 3, 1) := by decide +kernel
theorem dX7_copy_79 : decode cX7_copy 79 = .ok (.iaload, 1) := by decide +kernel
theorem dX7_copy_80 : decode cX7_copy 80 = .ok (.invokestatic 159, 3) := by decide +kernel
theorem dX7_copy_83 : decode cX7_copy 83 = .ok (.ifCond .ne 6, 3) := by decide +kernel
theorem dX7_copy_86 : decode cX7_copy 86 = .ok (.bipush (-13), 2) := by decide +kernel
theorem dX7_copy_88 : decode cX7_copy 88 = .ok (.ireturn, 1) := by decide +kernel
theorem dX7_copy_89 : decode cX7_copy 89 = .ok (.iload_n 1, 1) := by decide +kernel
theorem dX7_copy_90 : decode cX7_copy 90 = .ok (.iload_n 3, 1) := by decide +kernel
theorem dX7_copy_91 : decode cX7_copy 91 = .ok (.if_icmp .ne 13, 3) := by decide +kernel
theorem dX7_copy_94 : decode cX7_copy 94 = .ok (.iload 4, 2) := by decide +kernel
theorem dX7_copy_96 : decode cX7_copy 96 = .ok (.iload_n 2, 1) := by decide +kernel
theorem dX7_copy_97 : decode cX7_copy 97 = .ok (.if_icmp .le 7, 3) := by decide +kernel
theorem dX7_copy_100 : decode cX7_copy 100 = .ok (.iconst 1, 1) := by decide +kernel
theorem dX7_copy_101 : decode cX7_copy 101 = .ok (.goto 4, 3) := by decide +kernel
theorem dX7_copy_104 : decode cX7_copy 104 = .ok (.iconst 0, 1) := by decide +kernel
theorem dX7_copy_105 : decode cX7_copy 105 = .ok (.istore 6, 2) := by decide +kernel
theorem dX7_copy_107 : decode cX7_copy 107 = .ok (.iconst 0, 1) := by decide +kernel
theorem dX7_copy_108 : decode cX7_copy 108 = .ok (.istore 7, 2) := by decide +kernel
theorem dX7_copy_110 : decode cX7_copy 110 = .ok (.iload 7, 2) := by decide +kernel
theorem dX7_copy_112 : decode cX7_copy 112 = .ok (.iload 5, 2) := by decide +kernel
theorem dX7_copy_114 : decode cX7_copy 114 = .ok (.if_icmp .ge 57, 3) := by decide +kernel
theorem dX7_copy_117 : decode cX7_copy 117 = .ok (.iload 6, 2) := by decide +kernel
theorem dX7_copy_119 : decode cX7_copy 119 = .ok (.ifCond .eq 13, 3) := by decide +kernel
theorem dX7_copy_122 : decode cX7_copy 122 = .ok (.iload 5, 2) := by decide +kernel
theorem dX7_copy_124 : decode cX7_copy 124 = .ok (.iconst 1, 1) := by decide +kernel
theorem dX7_copy_125 : decode cX7_copy 125 = .ok (.isub, 1) := by decide +kernel
theorem dX7_copy_126 : decode cX7_copy 126 = .ok (.iload 7, 2) := by decide +kernel
theorem dX7_copy_128 : decode cX7_copy 128 = .ok (.isub, 1) := by decide +kernel
theorem dX7_copy_129 : decode cX7_copy 129 = .ok (.goto 5, 3) := by decide +kernel
theorem dX7_copy_132 : decode cX7_copy 132 = .ok (.iload 7, 2) := by decide +kernel
theorem dX7_copy_134 : decode cX7_copy 134 = .ok (.istore 8, 2) := by decide +kernel
theorem dX7_copy_136 : decode cX7_copy 136 = .ok (.aload_n 0, 1) := by decide +kernel
theorem dX7_copy_137 : decode cX7_copy 137 = .ok (.getfield 16, 3) := by decide +kernel
theorem dX7_copy_140 : decode cX7_copy 140 = .ok (.bipush 24, 2) := by decide +kernel
theorem dX7_copy_142 : decode cX7_copy 142 = .ok (.iload_n 3, 1) := by decide +kernel
theorem dX7_copy_143 : decode cX7_copy 143 = .ok (.imul, 1) := by decide +kernel
theorem dX7_copy_144 : decode cX7_copy 144 = .ok (.iload 4, 2) := by decide +kernel
theorem dX7_copy_146 : decode cX7_copy 146 = .ok (.iadd, 1) := by decide +kernel
theorem dX7_copy_147 : decode cX7_copy 147 = .ok (.iload 8, 2) := by decide +kernel
theorem dX7_copy_149 : decode cX7_copy 149 = .ok (.iadd, 1) := by decide +kernel
theorem dX7_copy_150 : decode cX7_copy 150 = .ok (.aload_n 0, 1) := by decide +kernel
theorem dX7_copy_151 : decode cX7_copy 151 = .ok (.getfield 16, 3) := by decide +kernel
theorem dX7_copy_154 : decode cX7_copy 154 = .ok (.bipush 24, 2) := by decide +kernel
theorem dX7_copy_156 : decode cX7_copy 156 = .ok (.iload_n 1, 1) := by decide +kernel
theorem dX7_copy_157 : decode cX7_copy 157 = .ok (.imul, 1) := by decide +kernel
theorem dX7_copy_158 : decode cX7_copy 158 = .ok (.iload_n 2, 1) := by decide +kernel
theorem dX7_copy_159 : decode cX7_copy 159 = .ok (.iadd, 1) := by decide +kernel
theorem dX7_copy_160 : decode cX7_copy 160 = .ok (.iload 8, 2) := by decide +kernel
theorem dX7_copy_162 : decode cX7_copy 162 = .ok (.iadd, 1) := by decide +kernel
theorem dX7_copy_163 : decode cX7_copy 163 = .ok (.laload, 1) := by decide +kernel
theorem dX7_copy_164 : decode cX7_copy 164 = .ok (.lastore, 1) := by decide +kernel
theorem dX7_copy_165 : decode cX7_copy 165 = .ok (.iinc 7 1, 3) := by decide +kernel
theorem dX7_copy_168 : decode cX7_copy 168 = .ok (.goto (-58), 3) := by decide +kernel
theorem dX7_copy_171 : decode cX7_copy 171 = .ok (.iload 5, 2) := by decide +kernel
theorem dX7_copy_173 : decode cX7_copy 173 = .ok (.ireturn, 1) := by decide +kernel
theorem dJ6_bitCount_0f7a4_0 : decode cJ6_bitCount_0f7a4 0 = .ok (.iload_n 0, 1) := by decide +kernel
theorem dJ6_bitCount_0f7a4_1 : decode cJ6_bitCount_0f7a4 1 = .ok (.iload_n 0, 1) := by decide +kernel
theorem dJ6_bitCount_0f7a4_2 : decode cJ6_bitCount_0f7a4 2 = .ok (.iconst 1, 1) := by decide +kernel
theorem dJ6_bitCount_0f7a4_3 : decode cJ6_bitCount_0f7a4 3 = .ok (.iushr, 1) := by decide +kernel
theorem dJ6_bitCount_0f7a4_4 : decode cJ6_bitCount_0f7a4 4 = .ok (.ldc_w 265, 3) := by decide +kernel
theorem dJ6_bitCount_0f7a4_7 : decode cJ6_bitCount_0f7a4 7 = .ok (.iand, 1) := by decide +kernel
theorem dJ6_bitCount_0f7a4_8 : decode cJ6_bitCount_0f7a4 8 = .ok (.isub, 1) := by decide +kernel
theorem dJ6_bitCount_0f7a4_9 : decode cJ6_bitCount_0f7a4 9 = .ok (.istore_n 0, 1) := by decide +kernel
theorem dJ6_bitCount_0f7a4_10 : decode cJ6_bitCount_0f7a4 10 = .ok (.iload_n 0, 1) := by decide +kernel
theorem dJ6_bitCount_0f7a4_11 : decode cJ6_bitCount_0f7a4 11 = .ok (.ldc_w 266, 3) := by decide +kernel
theorem dJ6_bitCount_0f7a4_14 : decode cJ6_bitCount_0f7a4 14 = .ok (.iand, 1) := by decide +kernel
theorem dJ6_bitCount_0f7a4_15 : decode cJ6_bitCount_0f7a4 15 = .ok (.iload_n 0, 1) := by decide +kernel
theorem dJ6_bitCount_0f7a4_16 : decode cJ6_bitCount_0f7a4 16 = .ok (.iconst 2, 1) := by decide +kernel
theorem dJ6_bitCount_0f7a4_17 : decode cJ6_bitCount_0f7a4 17 = .ok (.iushr, 1) := by decide +kernel
theorem dJ6_bitCount_0f7a4_18 : decode cJ6_bitCount_0f7a4 18 = .ok (.ldc_w 266, 3) := by decide +kernel
theorem dJ6_bitCount_0f7a4_21 : decode cJ6_bitCount_0f7a4 21 = .ok (.iand, 1) := by decide +kernel
theorem dJ6_bitCount_0f7a4_22 : decode cJ6_bitCount_0f7a4 22 = .ok (.iadd, 1) := by decide +kernel
theorem dJ6_bitCount_0f7a4_23 : decode cJ6_bitCount_0f7a4 23 = .ok (.istore_n 0, 1) := by decide +kernel
theorem dJ6_bitCount_0f7a4_24 : decode cJ6_bitCount_0f7a4 24 = .ok (.iload_n 0, 1) := by decide +kernel
theorem dJ6_bitCount_0f7a4_25 : decode cJ6_bitCount_0f7a4 25 = .ok (.iload_n 0, 1) := by decide +kernel
theorem dJ6_bitCount_0f7a4_26 : decode cJ6_bitCount_0f7a4 26 = .ok (.iconst 4, 1) := by decide +kernel
theorem dJ6_bitCount_0f7a4_27 : decode cJ6_bitCount_0f7a4 27 = .ok (.iushr, 1) := by decide +kernel
theorem dJ6_bitCount_0f7a4_28 : decode cJ6_bitCount_0f7a4 28 = .ok (.iadd, 1) := by decide +kernel
theorem dJ6_bitCount_0f7a4_29 : decode cJ6_bitCount_0f7a4 29 = .ok (.ldc_w 267, 3) := by decide +kernel
theorem dJ6_bitCount_0f7a4_32 : decode cJ6_bitCount_0f7a4 32 = .ok (.iand, 1) := by decide +kernel
theorem dJ6_bitCount_0f7a4_33 : decode cJ6_bitCount_0f7a4 33 = .ok (.istore_n 0, 1) := by decide +kernel
theorem dJ6_bitCount_0f7a4_34 : decode cJ6_bitCount_0f7a4 34 = .ok (.iload_n 0, 1) := by decide +kernel
theorem dJ6_bitCount_0f7a4_35 : decode cJ6_bitCount_0f7a4 35 = .ok (.iload_n 0, 1) := by decide +kernel
theorem dJ6_bitCount_0f7a4_36 : decode cJ6_bitCount_0f7a4 36 = .ok (.bipush 8, 2) := by decide +kernel
theorem dJ6_bitCount_0f7a4_38 : decode cJ6_bitCount_0f7a4 38 = .ok (.iushr, 1) := by decide +kernel
theorem dJ6_bitCount_0f7a4_39 : decode cJ6_bitCount_0f7a4 39 = .ok (.iadd, 1) := by decide +kernel
theorem dJ6_bitCount_0f7a4_40 : decode cJ6_bitCount_0f7a4 40 = .ok (.istore_n 0, 1) := by decide +kernel
theorem dJ6_bitCount_0f7a4_41 : decode cJ6_bitCount_0f7a4 41 = .ok (.iload_n 0, 1) := by decide +kernel
theorem dJ6_bitCount_0f7a4_42 : decode cJ6_bitCount_0f7a4 42 = .ok (.iload_n 0, 1) := by decide +kernel
theorem dJ6_bitCount_0f7a4_43 : decode cJ6_bitCount_0f7a4 43 = .ok (.bipush 16, 2) := by decide +kernel
theorem dJ6_bitCount_0f7a4_45 : decode cJ6_bitCount_0f7a4 45 = .ok (.iushr, 1) := by decide +kernel
theorem dJ6_bitCount_0f7a4_46 : decode cJ6_bitCount_0f7a4 46 = .ok (.iadd, 1) := by decide +kernel
theorem dJ6_bitCount_0f7a4_47 : decode cJ6_bitCount_0f7a4 47 = .ok (.istore_n 0, 1) := by decide +kernel
theorem dJ6_bitCount_0f7a4_48 : decode cJ6_bitCount_0f7a4 48 = .ok (.iload_n 0, 1) := by decide +kernel
theorem dJ6_bitCount_0f7a4_49 : decode cJ6_bitCount_0f7a4 49 = .ok (.bipush 63, 2) := by decide +kernel
theorem dJ6_bitCount_0f7a4_51 : decode cJ6_bitCount_0f7a4 51 = .ok (.iand, 1) := by decide +kernel
theorem dJ6_bitCount_0f7a4_52 : decode cJ6_bitCount_0f7a4 52 = .ok (.ireturn, 1) := by decide +kernel
theorem dJ9_max_7cf53_0 : decode cJ9_max_7cf53 0 = .ok (.iload_n 0, 1) := by decide +kernel
theorem dJ9_max_7cf53_1 : decode cJ9_max_7cf53 1 = .ok (.iload_n 1, 1) := by decide +kernel
theorem dJ9_max_7cf53_2 : decode cJ9_max_7cf53 2 = .ok (.if_icmp .lt 7, 3) := by decide +kernel
theorem dJ9_max_7cf53_5 : decode cJ9_max_7cf53 5 = .ok (.iload_n 0, 1) := by decide +kernel
theorem dJ9_max_7cf53_6 : decode cJ9_max_7cf53 6 = .ok (.goto 4, 3) := by decide +kernel
theorem dJ9_max_7cf53_9 : decode cJ9_max_7cf53 9 = .ok (.iload_n 1, 1) := by decide +kernel
theorem dJ9_max_7cf53_10 : decode cJ9_max_7cf53 10 = .ok (.ireturn, 1) := by decide +kernel
theorem dJ9_min_7cf53_0 : decode cJ9_min_7cf53 0 = .ok (.iload_n 0, 1) := by decide +kernel
theorem dJ9_min_7cf53_1 : decode cJ9_min_7cf53 1 = .ok (.iload_n 1, 1) := by decide +kernel
theorem dJ9_min_7cf53_2 : decode cJ9_min_7cf53 2 = .ok (.if_icmp .gt 7, 3) := by decide +kernel
theorem dJ9_min_7cf53_5 : decode cJ9_min_7cf53 5 = .ok (.iload_n 0, 1) := by decide +kernel
theorem dJ9_min_7cf53_6 : decode cJ9_min_7cf53 6 = .ok (.goto 4, 3) := by decide +kernel
theorem dJ9_min_7cf53_9 : decode cJ9_min_7cf53 9 = .ok (.iload_n 1, 1) := by decide +kernel
theorem dJ9_min_7cf53_10 : decode cJ9_min_7cf53 10 = .ok (.ireturn, 1) := by decide +kernel
