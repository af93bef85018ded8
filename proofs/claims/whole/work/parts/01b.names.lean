theorem dX0_init_0 : decode cX0_init 0 = .ok (.aload_n 0, 1) := by decide +kernel
theorem dX0_init_1 : decode cX0_init 1 = .ok (.invokespecial 3, 3) := by decide +kernel
theorem dX0_init_4 : decode cX0_init 4 = .ok (.aload_n 0, 1) := by decide +kernel
theorem dX0_init_5 : decode cX0_init 5 = .ok (.bipush 10, 2) := by decide +kernel
theorem dX0_init_7 : decode cX0_init 7 = .ok (.newarray .int, 2) := by decide +kernel
theorem dX0_init_9 : decode cX0_init 9 = .ok (.putfield 9, 3) := by decide +kernel
theorem dX0_init_12 : decode cX0_init 12 = .ok (.aload_n 0, 1) := by decide +kernel
theorem dX0_init_13 : decode cX0_init 13 = .ok (.bipush 10, 2) := by decide +kernel
theorem dX0_init_15 : decode cX0_init 15 = .ok (.newarray .int, 2) := by decide +kernel
theorem dX0_init_17 : decode cX0_init 17 = .ok (.putfield 15, 3) := by decide +kernel
theorem dX0_init_20 : decode cX0_init 20 = .ok (.aload_n 0, 1) := by decide +kernel
theorem dX0_init_21 : decode cX0_init 21 = .ok (.bipush 10, 2) := by decide +kernel
theorem dX0_init_23 : decode cX0_init 23 = .ok (.newarray .int, 2) := by decide +kernel
theorem dX0_init_25 : decode cX0_init 25 = .ok (.putfield 18, 3) := by decide +kernel
theorem dX0_init_28 : decode cX0_init 28 = .ok (.aload_n 0, 1) := by decide +kernel
theorem dX0_init_29 : decode cX0_init 29 = .ok (.bipush 10, 2) := by decide +kernel
theorem dX0_init_31 : decode cX0_init 31 = .ok (.newarray .int, 2) := by decide +kernel
theorem dX0_init_33 : decode cX0_init 33 = .ok (.putfield 21, 3) := by decide +kernel
theorem dX0_init_36 : decode cX0_init 36 = .ok (.aload_n 0, 1) := by decide +kernel
theorem dX0_init_37 : decode cX0_init 37 = .ok (.iconst 0, 1) := by decide +kernel
theorem dX0_init_38 : decode cX0_init 38 = .ok (.putfield 24, 3) := by decide +kernel
theorem dX0_init_41 : decode cX0_init 41 = .ok (.aload_n 0, 1) := by decide +kernel
theorem dX0_init_42 : decode cX0_init 42 = .ok (.iconst 0, 1) := by decide +kernel
theorem dX0_init_43 : decode cX0_init 43 = .ok (.putfield 28, 3) := by decide +kernel
theorem dX0_init_46 : decode cX0_init 46 = .ok (.aload_n 0, 1) := by decide +kernel
theorem dX0_init_47 : decode cX0_init 47 = .ok (.iconst 0, 1) := by decide +kernel
theorem dX0_init_48 : decode cX0_init 48 = .ok (.putfield 31, 3) := by decide +kernel
theorem dX0_init_51 : decode cX0_init 51 = .ok (.aload_n 0, 1) := by decide +kernel
theorem dX0_init_52 : decode cX0_init 52 = .ok (.iconst 1, 1) := by decide +kernel
theorem dX0_init_53 : decode cX0_init 53 = .ok (.putfield 34, 3) := by decide +kernel
theorem dX0_init_56 : decode cX0_init 56 = .ok (.return_, 1) := by decide +kernel
set_option maxRecDepth 20000 in
theorem ggX0_become_X0_becomeCoatsOf : GoodIn wsX0_become wsX0_becomeCoatsOf := goodIn_r _ [8, 9, 10, 11, 12, 13, 14, 15, 16, 17, 18, 19, 20, 21, 22, 23, 24, 25] (by decide +kernel) (by decide +kernel)
set_option maxRecDepth 20000 in
theorem gX0_become_X0_becomeCoatsOf : GoodIn wsX0_become (wsV RX0 37 RX0 yX0_becomeCoatsOf wsX0_becomeCoatsOf) := goodIn_app (goodIn_of _ (by decide +kernel)) ggX0_become_X0_becomeCoatsOf
theorem dX0_become_0 : decode cX0_become 0 = .ok (.aload_n 0, 1) := by decide +kernel
theorem dX0_become_1 : decode cX0_become 1 = .ok (.aload_n 1, 1) := by decide +kernel
theorem dX0_become_2 : decode cX0_become 2 = .ok (.invokevirtual 37, 3) := by decide +kernel
theorem dX0_become_5 : decode cX0_become 5 = .ok (.aload_n 0, 1) := by decide +kernel
theorem dX0_become_6 : decode cX0_become 6 = .ok (.aload_n 1, 1) := by decide +kernel
theorem dX0_become_7 : decode cX0_become 7 = .ok (.getfield 28, 3) := by decide +kernel
theorem dX0_become_10 : decode cX0_become 10 = .ok (.putfield 28, 3) := by decide +kernel
theorem dX0_become_13 : decode cX0_become 13 = .ok (.aload_n 0, 1) := by decide +kernel
theorem dX0_become_14 : decode cX0_become 14 = .ok (.aload_n 1, 1) := by decide +kernel
theorem dX0_become_15 : decode cX0_become 15 = .ok (.getfield 31, 3) := by decide +kernel
theorem dX0_become_18 : decode cX0_become 18 = .ok (.putfield 31, 3) := by decide +kernel
theorem dX0_become_21 : decode cX0_become 21 = .ok (.aload_n 0, 1) := by decide +kernel
theorem dX0_become_22 : decode cX0_become 22 = .ok (.aload_n 1, 1) := by decide +kernel
theorem dX0_become_23 : decode cX0_become 23 = .ok (.getfield 34, 3) := by decide +kernel
theorem dX0_become_26 : decode cX0_become 26 = .ok (.putfield 34, 3) := by decide +kernel
theorem dX0_become_29 : decode cX0_become 29 = .ok (.return_, 1) := by decide +kernel
theorem dX0_becomeCoatsOf_0 : decode cX0_becomeCoatsOf 0 = .ok (.aload_n 0, 1) := by decide +kernel
theorem dX0_becomeCoatsOf_1 : decode cX0_becomeCoatsOf 1 = .ok (.aload_n 1, 1) := by decide +kernel
theorem dX0_becomeCoatsOf_2 : decode cX0_becomeCoatsOf 2 = .ok (.getfield 24, 3) := by decide +kernel
theorem dX0_becomeCoatsOf_5 : decode cX0_becomeCoatsOf 5 = .ok (.putfield 24, 3) := by decide +kernel
theorem dX0_becomeCoatsOf_8 : decode cX0_becomeCoatsOf 8 = .ok (.aload_n 1, 1) := by decide +kernel
theorem dX0_becomeCoatsOf_9 : decode cX0_becomeCoatsOf 9 = .ok (.getfield 9, 3) := by decide +kernel
theorem dX0_becomeCoatsOf_12 : decode cX0_becomeCoatsOf 12 = .ok (.iconst 0, 1) := by decide +kernel
theorem dX0_becomeCoatsOf_13 : decode cX0_becomeCoatsOf 13 = .ok (.aload_n 0, 1) := by decide +kernel
theorem dX0_becomeCoatsOf_14 : decode cX0_becomeCoatsOf 14 = .ok (.getfield 9, 3) := by decide +kernel
theorem dX0_becomeCoatsOf_17 : decode cX0_becomeCoatsOf 17 = .ok (.iconst 0, 1) := by decide +kernel
theorem dX0_becomeCoatsOf_18 : decode cX0_becomeCoatsOf 18 = .ok (.bipush 10, 2) := by decide +kernel
theorem dX0_becomeCoatsOf_20 : decode cX0_becomeCoatsOf 20 = .ok (.invokestatic 41, 3) := by decide +kernel
theorem dX0_becomeCoatsOf_23 : decode cX0_becomeCoatsOf 23 = .ok (.aload_n 1, 1) := by decide +kernel
theorem dX0_becomeCoatsOf_24 : decode cX0_becomeCoatsOf 24 = .ok (.getfield 15, 3) := by decide +kernel
theorem dX0_becomeCoatsOf_27 : decode cX0_becomeCoatsOf 27 = .ok (.iconst 0, 1) := by decide +kernel
theorem dX0_becomeCoatsOf_28 : decode cX0_becomeCoatsOf 28 = .ok (.aload_n 0, 1) := by decide +kernel
theorem dX0_becomeCoatsOf_29 : decode cX0_becomeCoatsOf 29 = .ok (.getfield 15, 3) := by decide +kernel
theorem dX0_becomeCoatsOf_32 : decode cX0_becomeCoatsOf 32 = .ok (.iconst 0, 1) := by decide +kernel
theorem dX0_becomeCoatsOf_33 : decode cX0_becomeCoatsOf 33 = .ok (.bipush 10, 2) := by decide +kernel
theorem dX0_becomeCoatsOf_35 : decode cX0_becomeCoatsOf 35 = .ok (.invokestatic 41, 3) := by decide +kernel
theorem dX0_becomeCoatsOf_38 : decode cX0_becomeCoatsOf 38 = .ok (.aload_n 1, 1) := by decide +kernel
theorem dX0_becomeCoatsOf_39 : decode cX0_becomeCoatsOf 39 = .ok (.getfield 18, 3) := by decide +kernel
theorem dX0_becomeCoatsOf_42 : decode cX0_becomeCoatsOf 42 = .ok (.iconst 0, 1) := by decide +kernel
theorem dX0_becomeCoatsOf_43 : decode cX0_becomeCoatsOf 43 = .ok (.aload_n 0, 1) := by decide +kernel
theorem dX0_becomeCoatsOf_44 : decode cX0_becomeCoatsOf 44 = .ok (.getfield 18, 3) := by decide +kernel
theorem dX0_becomeCoatsOf_47 : decode cX0_becomeCoatsOf 47 = .ok (.iconst 0, 1) := by decide +kernel
theorem dX0_becomeCoatsOf_48 : decode cX0_becomeCoatsOf 48 = .ok (.bipush 10, 2) := by decide +kernel
theorem dX0_becomeCoatsOf_50 : decode cX0_becomeCoatsOf 50 = .ok (.invokestatic 41, 3) := by decide +kernel
theorem dX0_becomeCoatsOf_53 : decode cX0_becomeCoatsOf 53 = .ok (.aload_n 1, 1) := by decide +kernel
theorem dX0_becomeCoatsOf_54 : decode cX0_becomeCoatsOf 54 = .ok (.getfield 21, 3) := by decide +kernel
theorem dX0_becomeCoatsOf_57 : decode cX0_becomeCoatsOf 57 = .ok (.iconst 0, 1) := by decide +kernel
theorem dX0_becomeCoatsOf_58 : decode cX0_becomeCoatsOf 58 = .ok (.aload_n 0, 1) := by decide +kernel
theorem dX0_becomeCoatsOf_59 : decode cX0_becomeCoatsOf 59 = .ok (.getfield 21, 3) := by decide +kernel
theorem dX0_becomeCoatsOf_62 : decode cX0_becomeCoatsOf 62 = .ok (.iconst 0, 1) := by decide +kernel
theorem dX0_becomeCoatsOf_63 : decode cX0_becomeCoatsOf 63 = .ok (.bipush 10, 2) := by decide +kernel
theorem dX0_becomeCoatsOf_65 : decode cX0_becomeCoatsOf 65 = .ok (.invokestatic 41, 3) := by decide +kernel
theorem dX0_becomeCoatsOf_68 : decode cX0_becomeCoatsOf 68 = .ok (.return_, 1) := by decide +kernel
theorem dX0_has_0 : decode cX0_has 0 = .ok (.iload_n 1, 1) := by decide +kernel
theorem dX0_has_1 : decode cX0_has 1 = .ok (.ifCond .lt 15, 3) := by decide +kernel
theorem dX0_has_4 : decode cX0_has 4 = .ok (.iload_n 1, 1) := by decide +kernel
theorem dX0_has_5 : decode cX0_has 5 = .ok (.aload_n 0, 1) := by decide +kernel
theorem dX0_has_6 : decode cX0_has 6 = .ok (.getfield 24, 3) := by decide +kernel
theorem dX0_has_9 : decode cX0_has 9 = .ok (.if_icmp .ge 7, 3) := by decide +kernel
theorem dX0_has_12 : decode cX0_has 12 = .ok (.iconst 1, 1) := by decide +kernel
theorem dX0_has_13 : decode cX0_has 13 = .ok (.goto 4, 3) := by decide +kernel
theorem dX0_has_16 : decode cX0_has 16 = .ok (.iconst 0, 1) := by decide +kernel
theorem dX0_has_17 : decode cX0_has 17 = .ok (.ireturn, 1) := by decide +kernel
set_option maxRecDepth 20000 in
theorem ggX0_mostTaken_X0_takenAsSedge : GoodIn wsX0_mostTaken wsX0_takenAsSedge := goodIn_r _ [8, 9, 2, 10, 11, 12, 13, 14, 15, 16, 17] (by decide +kernel) (by decide +kernel)
set_option maxRecDepth 20000 in
theorem gX0_mostTaken_X0_takenAsSedge : GoodIn wsX0_mostTaken (wsV RX0 47 RX0 yX0_takenAsSedge wsX0_takenAsSedge) := goodIn_app (goodIn_of _ (by decide +kernel)) ggX0_mostTaken_X0_takenAsSedge
theorem dX0_mostTaken_0 : decode cX0_mostTaken 0 = .ok (.aload_n 0, 1) := by decide +kernel
theorem dX0_mostTaken_1 : decode cX0_mostTaken 1 = .ok (.getfield 9, 3) := by decide +kernel
theorem dX0_mostTaken_4 : decode cX0_mostTaken 4 = .ok (.iload_n 1, 1) := by decide +kernel
theorem dX0_mostTaken_5 : decode cX0_mostTaken 5 = .ok (.iaload, 1) := by decide +kernel
theorem dX0_mostTaken_6 : decode cX0_mostTaken 6 = .ok (.tableswitch 69 1 4 #[30, 39, 45, 61], 30) := by decide +kernel
theorem dX0_mostTaken_36 : decode cX0_mostTaken 36 = .ok (.aload_n 0, 1) := by decide +kernel
theorem dX0_mostTaken_37 : decode cX0_mostTaken 37 = .ok (.getfield 15, 3) := by decide +kernel
theorem dX0_mostTaken_40 : decode cX0_mostTaken 40 = .ok (.iload_n 1, 1) := by decide +kernel
theorem dX0_mostTaken_41 : decode cX0_mostTaken 41 = .ok (.iaload, 1) := by decide +kernel
theorem dX0_mostTaken_42 : decode cX0_mostTaken 42 = .ok (.iconst 2, 1) := by decide +kernel
theorem dX0_mostTaken_43 : decode cX0_mostTaken 43 = .ok (.idiv, 1) := by decide +kernel
theorem dX0_mostTaken_44 : decode cX0_mostTaken 44 = .ok (.ireturn, 1) := by decide +kernel
theorem dX0_mostTaken_45 : decode cX0_mostTaken 45 = .ok (.aload_n 0, 1) := by decide +kernel
theorem dX0_mostTaken_46 : decode cX0_mostTaken 46 = .ok (.iload_n 1, 1) := by decide +kernel
theorem dX0_mostTaken_47 : decode cX0_mostTaken 47 = .ok (.invokevirtual 47, 3) := by decide +kernel
theorem dX0_mostTaken_50 : decode cX0_mostTaken 50 = .ok (.ireturn, 1) := by decide +kernel
theorem dX0_mostTaken_51 : decode cX0_mostTaken 51 = .ok (.aload_n 0, 1) := by decide +kernel
theorem dX0_mostTaken_52 : decode cX0_mostTaken 52 = .ok (.getfield 15, 3) := by decide +kernel
theorem dX0_mostTaken_55 : decode cX0_mostTaken 55 = .ok (.iload_n 1, 1) := by decide +kernel
theorem dX0_mostTaken_56 : decode cX0_mostTaken 56 = .ok (.iaload, 1) := by decide +kernel
theorem dX0_mostTaken_57 : decode cX0_mostTaken 57 = .ok (.iconst 2, 1) := by decide +kernel
theorem dX0_mostTaken_58 : decode cX0_mostTaken 58 = .ok (.idiv, 1) := by decide +kernel
theorem dX0_mostTaken_59 : decode cX0_mostTaken 59 = .ok (.aload_n 0, 1) := by decide +kernel
theorem dX0_mostTaken_60 : decode cX0_mostTaken 60 = .ok (.getfield 28, 3) := by decide +kernel
theorem dX0_mostTaken_63 : decode cX0_mostTaken 63 = .ok (.iconst 2, 1) := by decide +kernel
theorem dX0_mostTaken_64 : decode cX0_mostTaken 64 = .ok (.irem, 1) := by decide +kernel
theorem dX0_mostTaken_65 : decode cX0_mostTaken 65 = .ok (.iadd, 1) := by decide +kernel
theorem dX0_mostTaken_66 : decode cX0_mostTaken 66 = .ok (.ireturn, 1) := by decide +kernel
theorem dX0_mostTaken_67 : decode cX0_mostTaken 67 = .ok (.iconst 2, 1) := by decide +kernel
theorem dX0_mostTaken_68 : decode cX0_mostTaken 68 = .ok (.aload_n 0, 1) := by decide +kernel
theorem dX0_mostTaken_69 : decode cX0_mostTaken 69 = .ok (.iload_n 1, 1) := by decide +kernel
theorem dX0_mostTaken_70 : decode cX0_mostTaken 70 = .ok (.invokevirtual 47, 3) := by decide +kernel
theorem dX0_mostTaken_73 : decode cX0_mostTaken 73 = .ok (.imul, 1) := by decide +kernel
theorem dX0_mostTaken_74 : decode cX0_mostTaken 74 = .ok (.ireturn, 1) := by decide +kernel
theorem dX0_mostTaken_75 : decode cX0_mostTaken 75 = .ok (.aload_n 0, 1) := by decide +kernel
theorem dX0_mostTaken_76 : decode cX0_mostTaken 76 = .ok (.getfield 15, 3) := by decide +kernel
theorem dX0_mostTaken_79 : decode cX0_mostTaken 79 = .ok (.iload_n 1, 1) := by decide +kernel
theorem dX0_mostTaken_80 : decode cX0_mostTaken 80 = .ok (.iaload, 1) := by decide +kernel
theorem dX0_mostTaken_81 : decode cX0_mostTaken 81 = .ok (.ireturn, 1) := by decide +kernel
theorem dX0_takenAsSedge_0 : decode cX0_takenAsSedge 0 = .ok (.aload_n 0, 1) := by decide +kernel
theorem dX0_takenAsSedge_1 : decode cX0_takenAsSedge 1 = .ok (.getfield 18, 3) := by decide +kernel
theorem dX0_takenAsSedge_4 : decode cX0_takenAsSedge 4 = .ok (.iload_n 1, 1) := by decide +kernel
theorem dX0_takenAsSedge_5 : decode cX0_takenAsSedge 5 = .ok (.iaload, 1) := by decide +kernel
theorem dX0_takenAsSedge_6 : decode cX0_takenAsSedge 6 = .ok (.ifCond .ne 14, 3) := by decide +kernel
theorem dX0_takenAsSedge_9 : decode cX0_takenAsSedge 9 = .ok (.aload_n 0, 1) := by decide +kernel
theorem dX0_takenAsSedge_10 : decode cX0_takenAsSedge 10 = .ok (.getfield 15, 3) := by decide +kernel
theorem dX0_takenAsSedge_13 : decode cX0_takenAsSedge 13 = .ok (.iload_n 1, 1) := by decide +kernel
theorem dX0_takenAsSedge_14 : decode cX0_takenAsSedge 14 = .ok (.iaload, 1) := by decide +kernel
theorem dX0_takenAsSedge_15 : decode cX0_takenAsSedge 15 = .ok (.iconst 2, 1) := by decide +kernel
theorem dX0_takenAsSedge_16 : decode cX0_takenAsSedge 16 = .ok (.iadd, 1) := by decide +kernel
theorem dX0_takenAsSedge_17 : decode cX0_takenAsSedge 17 = .ok (.goto 9, 3) := by decide +kernel
theorem dX0_takenAsSedge_20 : decode cX0_takenAsSedge 20 = .ok (.aload_n 0, 1) := by decide +kernel
theorem dX0_takenAsSedge_21 : decode cX0_takenAsSedge 21 = .ok (.getfield 15, 3) := by decide +kernel
theorem dX0_takenAsSedge_24 : decode cX0_takenAsSedge 24 = .ok (.iload_n 1, 1) := by decide +kernel
theorem dX0_takenAsSedge_25 : decode cX0_takenAsSedge 25 = .ok (.iaload, 1) := by decide +kernel
theorem dX0_takenAsSedge_26 : decode cX0_takenAsSedge 26 = .ok (.ireturn, 1) := by decide +kernel
set_option maxRecDepth 20000 in
theorem ggX0_mostTakenAbove_X0_mostTaken : GoodIn wsX0_mostTakenAbove wsX0_mostTaken := goodIn_r _ [6, 7, 8, 9, 10, 11, 12, 5, 13, 14, 15, 16, 17, 18, 19, 20, 21, 22] (by decide +kernel) (by decide +kernel)
set_option maxRecDepth 20000 in
theorem gX0_mostTakenAbove_X0_mostTaken : GoodIn wsX0_mostTakenAbove (wsV RX0 51 RX0 yX0_mostTaken wsX0_mostTaken) := goodIn_app (goodIn_of _ (by decide +kernel)) ggX0_mostTakenAbove_X0_mostTaken
theorem dX0_mostTakenAbove_0 : decode cX0_mostTakenAbove 0 = .ok (.iconst 0, 1) := by decide +kernel
theorem dX0_mostTakenAbove_1 : decode cX0_mostTakenAbove 1 = .ok (.istore_n 2, 1) := by decide +kernel
theorem dX0_mostTakenAbove_2 : decode cX0_mostTakenAbove 2 = .ok (.iload_n 1, 1) := by decide +kernel
theorem dX0_mostTakenAbove_3 : decode cX0_mostTakenAbove 3 = .ok (.iconst 1, 1) := by decide +kernel
theorem dX0_mostTakenAbove_4 : decode cX0_mostTakenAbove 4 = .ok (.iadd, 1) := by decide +kernel
theorem dX0_mostTakenAbove_5 : decode cX0_mostTakenAbove 5 = .ok (.istore_n 3, 1) := by decide +kernel
theorem dX0_mostTakenAbove_6 : decode cX0_mostTakenAbove 6 = .ok (.iload_n 3, 1) := by decide +kernel
theorem dX0_mostTakenAbove_7 : decode cX0_mostTakenAbove 7 = .ok (.aload_n 0, 1) := by decide +kernel
theorem dX0_mostTakenAbove_8 : decode cX0_mostTakenAbove 8 = .ok (.getfield 24, 3) := by decide +kernel
theorem dX0_mostTakenAbove_11 : decode cX0_mostTakenAbove 11 = .ok (.if_icmp .ge 17, 3) := by decide +kernel
theorem dX0_mostTakenAbove_14 : decode cX0_mostTakenAbove 14 = .ok (.iload_n 2, 1) := by decide +kernel
theorem dX0_mostTakenAbove_15 : decode cX0_mostTakenAbove 15 = .ok (.aload_n 0, 1) := by decide +kernel
theorem dX0_mostTakenAbove_16 : decode cX0_mostTakenAbove 16 = .ok (.iload_n 3, 1) := by decide +kernel
theorem dX0_mostTakenAbove_17 : decode cX0_mostTakenAbove 17 = .ok (.invokevirtual 51, 3) := by decide +kernel
theorem dX0_mostTakenAbove_20 : decode cX0_mostTakenAbove 20 = .ok (.iadd, 1) := by decide +kernel
theorem dX0_mostTakenAbove_21 : decode cX0_mostTakenAbove 21 = .ok (.istore_n 2, 1) := by decide +kernel
theorem dX0_mostTakenAbove_22 : decode cX0_mostTakenAbove 22 = .ok (.iinc 3 1, 3) := by decide +kernel
theorem dX0_mostTakenAbove_25 : decode cX0_mostTakenAbove 25 = .ok (.goto (-19), 3) := by decide +kernel
theorem dX0_mostTakenAbove_28 : decode cX0_mostTakenAbove 28 = .ok (.iload_n 2, 1) := by decide +kernel
theorem dX0_mostTakenAbove_29 : decode cX0_mostTakenAbove 29 = .ok (.ireturn, 1) := by decide +kernel
set_option maxRecDepth 20000 in
theorem ggX0_reachedBy_X0_mostTaken : GoodIn wsX0_reachedBy wsX0_mostTaken := goodIn_r _ [6, 7, 8, 9, 10, 11, 12, 5, 13, 14, 15, 16, 17, 18, 19, 20, 21, 22] (by decide +kernel) (by decide +kernel)
set_option maxRecDepth 20000 in
theorem gX0_reachedBy_X0_mostTaken : GoodIn wsX0_reachedBy (wsV RX0 51 RX0 yX0_mostTaken wsX0_mostTaken) := goodIn_app (goodIn_of _ (by decide +kernel)) ggX0_reachedBy_X0_mostTaken
theorem dX0_reachedBy_0 : decode cX0_reachedBy 0 = .ok (.iconst 0, 1) := by decide +kernel
theorem dX0_reachedBy_1 : decode cX0_reachedBy 1 = .ok (.istore_n 2, 1) := by decide +kernel
theorem dX0_reachedBy_2 : decode cX0_reachedBy 2 = .ok (.iload_n 1, 1) := by decide +kernel
theorem dX0_reachedBy_3 : decode cX0_reachedBy 3 = .ok (.istore_n 3, 1) := by decide +kernel
theorem dX0_reachedBy_4 : decode cX0_reachedBy 4 = .ok (.aload_n 0, 1) := by decide +kernel
theorem dX0_reachedBy_5 : decode cX0_reachedBy 5 = .ok (.getfield 24, 3) := by decide +kernel
theorem dX0_reachedBy_8 : decode cX0_reachedBy 8 = .ok (.iconst 1, 1) := by decide +kernel
theorem dX0_reachedBy_9 : decode cX0_reachedBy 9 = .ok (.isub, 1) := by decide +kernel
theorem dX0_reachedBy_10 : decode cX0_reachedBy 10 = .ok (.istore 4, 2) := by decide +kernel
theorem dX0_reachedBy_12 : decode cX0_reachedBy 12 = .ok (.iload 4, 2) := by decide +kernel
theorem dX0_reachedBy_14 : decode cX0_reachedBy 14 = .ok (.ifCond .lt 25, 3) := by decide +kernel
theorem dX0_reachedBy_17 : decode cX0_reachedBy 17 = .ok (.iload_n 3, 1) := by decide +kernel
theorem dX0_reachedBy_18 : decode cX0_reachedBy 18 = .ok (.ifCond .le 21, 3) := by decide +kernel
theorem dX0_reachedBy_21 : decode cX0_reachedBy 21 = .ok (.iinc 2 1, 3) := by decide +kernel
theorem dX0_reachedBy_24 : decode cX0_reachedBy 24 = .ok (.iload_n 3, 1) := by decide +kernel
theorem dX0_reachedBy_25 : decode cX0_reachedBy 25 = .ok (.aload_n 0, 1) := by decide +kernel
theorem dX0_reachedBy_26 : decode cX0_reachedBy 26 = .ok (.iload 4, 2) := by decide +kernel
theorem dX0_reachedBy_28 : decode cX0_reachedBy 28 = .ok (.invokevirtual 51, 3) := by decide +kernel
theorem dX0_reachedBy_31 : decode cX0_reachedBy 31 = .ok (.isub, 1) := by decide +kernel
theorem dX0_reachedBy_32 : decode cX0_reachedBy 32 = .ok (.istore_n 3, 1) := by decide +kernel
theorem dX0_reachedBy_33 : decode cX0_reachedBy 33 = .ok (.iinc 4 (-1), 3) := by decide +kernel
theorem dX0_reachedBy_36 : decode cX0_reachedBy 36 = .ok (.goto (-24), 3) := by decide +kernel
theorem dX0_reachedBy_39 : decode cX0_reachedBy 39 = .ok (.iload_n 2, 1) := by decide +kernel
theorem dX0_reachedBy_40 : decode cX0_reachedBy 40 = .ok (.ireturn, 1) := by decide +kernel
theorem dX0_heavinessOf_0 : decode cX0_heavinessOf 0 = .ok (.aload_n 0, 1) := by decide +kernel
theorem dX0_heavinessOf_1 : decode cX0_heavinessOf 1 = .ok (.getfield 15, 3) := by decide +kernel
theorem dX0_heavinessOf_4 : decode cX0_heavinessOf 4 = .ok (.iload_n 1, 1) := by decide +kernel
theorem dX0_heavinessOf_5 : decode cX0_heavinessOf 5 = .ok (.iaload, 1) := by decide +kernel
theorem dX0_heavinessOf_6 : decode cX0_heavinessOf 6 = .ok (.aload_n 0, 1) := by decide +kernel
theorem dX0_heavinessOf_7 : decode cX0_heavinessOf 7 = .ok (.getfield 18, 3) := by decide +kernel
theorem dX0_heavinessOf_10 : decode cX0_heavinessOf 10 = .ok (.iload_n 1, 1) := by decide +kernel
theorem dX0_heavinessOf_11 : decode cX0_heavinessOf 11 = .ok (.iaload, 1) := by decide +kernel
theorem dX0_heavinessOf_12 : decode cX0_heavinessOf 12 = .ok (.iadd, 1) := by decide +kernel
theorem dX0_heavinessOf_13 : decode cX0_heavinessOf 13 = .ok (.ireturn, 1) := by decide +kernel
set_option maxRecDepth 20000 in
theorem ggX0_heaviness_X0_heavinessOf : GoodIn wsX0_heaviness wsX0_heavinessOf := goodIn_r _ [6, 7, 8, 9, 10, 11, 12, 13, 14, 15, 16] (by decide +kernel) (by decide +kernel)
set_option maxRecDepth 20000 in
theorem gX0_heaviness_X0_heavinessOf : GoodIn wsX0_heaviness (wsV RX0 54 RX0 yX0_heavinessOf wsX0_heavinessOf) := goodIn_app (goodIn_of _ (by decide +kernel)) ggX0_heaviness_X0_heavinessOf
theorem dX0_heaviness_0 : decode cX0_heaviness 0 = .ok (.iconst 0, 1) := by decide +kernel
theorem dX0_heaviness_1 : decode cX0_heaviness 1 = .ok (.istore_n 1, 1) := by decide +kernel
theorem dX0_heaviness_2 : decode cX0_heaviness 2 = .ok (.iconst 0, 1) := by decide +kernel
theorem dX0_heaviness_3 : decode cX0_heaviness 3 = .ok (.istore_n 2, 1) := by decide +kernel
theorem dX0_heaviness_4 : decode cX0_heaviness 4 = .ok (.iload_n 2, 1) := by decide +kernel
theorem dX0_heaviness_5 : decode cX0_heaviness 5 = .ok (.aload_n 0, 1) := by decide +kernel
theorem dX0_heaviness_6 : decode cX0_heaviness 6 = .ok (.getfield 24, 3) := by decide +kernel
theorem dX0_heaviness_9 : decode cX0_heaviness 9 = .ok (.if_icmp .ge 17, 3) := by decide +kernel
theorem dX0_heaviness_12 : decode cX0_heaviness 12 = .ok (.iload_n 1, 1) := by decide +kernel
theorem dX0_heaviness_13 : decode cX0_heaviness 13 = .ok (.aload_n 0, 1) := by decide +kernel
theorem dX0_heaviness_14 : decode cX0_heaviness 14 = .ok (.iload_n 2, 1) := by decide +kernel
theorem dX0_heaviness_15 : decode cX0_heaviness 15 = .ok (.invokevirtual 54, 3) := by decide +kernel
theorem dX0_heaviness_18 : decode cX0_heaviness 18 = .ok (.iadd, 1) := by decide +kernel
theorem dX0_heaviness_19 : decode cX0_heaviness 19 = .ok (.istore_n 1, 1) := by decide +kernel
theorem dX0_heaviness_20 : decode cX0_heaviness 20 = .ok (.iinc 2 1, 3) := by decide +kernel
theorem dX0_heaviness_23 : decode cX0_heaviness 23 = .ok (.goto (-19), 3) := by decide +kernel
theorem dX0_heaviness_26 : decode cX0_heaviness 26 = .ok (.iload_n 1, 1) := by decide +kernel
theorem dX0_heaviness_27 : decode cX0_heaviness 27 = .ok (.ireturn, 1) := by decide +kernel
theorem dX0_thickness_0 : decode cX0_thickness 0 = .ok (.iconst 0, 1) := by decide +kernel
theorem dX0_thickness_1 : decode cX0_thickness 1 = .ok (.istore_n 1, 1) := by decide +kernel
theorem dX0_thickness_2 : decode cX0_thickness 2 = .ok (.iconst 0, 1) := by decide +kernel
theorem dX0_thickness_3 : decode cX0_thickness 3 = .ok (.istore_n 2, 1) := by decide +kernel
theorem dX0_thickness_4 : decode cX0_thickness 4 = .ok (.iload_n 2, 1) := by decide +kernel
theorem dX0_thickness_5 : decode cX0_thickness 5 = .ok (.aload_n 0, 1) := by decide +kernel
theorem dX0_thickness_6 : decode cX0_thickness 6 = .ok (.getfield 24, 3) := by decide +kernel
theorem dX0_thickness_9 : decode cX0_thickness 9 = .ok (.if_icmp .ge 18, 3) := by decide +kernel
theorem dX0_thickness_12 : decode cX0_thickness 12 = .ok (.iload_n 1, 1) := by decide +kernel
theorem dX0_thickness_13 : decode cX0_thickness 13 = .ok (.aload_n 0, 1) := by decide +kernel
theorem dX0_thickness_14 : decode cX0_thickness 14 = .ok (.getfield 15, 3) := by decide +kernel
theorem dX0_thickness_17 : decode cX0_thickness 17 = .ok (.iload_n 2, 1) := by decide +kernel
theorem dX0_thickness_18 : decode cX0_thickness 18 = .ok (.iaload, 1) := by decide +kernel
theorem dX0_thickness_19 : decode cX0_thickness 19 = .ok (.iadd, 1) := by decide +kernel
theorem dX0_thickness_20 : decode cX0_thickness 20 = .ok (.istore_n 1, 1) := by decide +kernel
theorem dX0_thickness_21 : decode cX0_thickness 21 = .ok (.iinc 2 1, 3) := by decide +kernel
theorem dX0_thickness_24 : decode cX0_thickness 24 = .ok (.goto (-20), 3) := by decide +kernel
theorem dX0_thickness_27 : decode cX0_thickness 27 = .ok (.iload_n 1, 1) := by decide +kernel
theorem dX0_thickness_28 : decode cX0_thickness 28 = .ok (.ireturn, 1) := by decide +kernel
theorem dX0_putOver_0 : decode cX0_putOver 0 = .ok (.aload_n 0, 1) := by decide +kernel
theorem dX0_putOver_1 : decode cX0_putOver 1 = .ok (.getfield 24, 3) := by decide +kernel
theorem dX0_putOver_4 : decode cX0_putOver 4 = .ok (.bipush 10, 2) := by decide +kernel
theorem dX0_putOver_6 : decode cX0_putOver 6 = .ok (.if_icmp .lt 4, 3) := by decide +kernel
theorem dX0_putOver_9 : decode cX0_putOver 9 = .ok (.return_, 1) := by decide +kernel
theorem dX0_putOver_10 : decode cX0_putOver 10 = .ok (.aload_n 0, 1) := by decide +kernel
theorem dX0_putOver_11 : decode cX0_putOver 11 = .ok (.getfield 9, 3) := by decide +kernel
theorem dX0_putOver_14 : decode cX0_putOver 14 = .ok (.aload_n 0, 1) := by decide +kernel
theorem dX0_putOver_15 : decode cX0_putOver 15 = .ok (.getfield 24, 3) := by decide +kernel
theorem dX0_putOver_18 : decode cX0_putOver 18 = .ok (.iload_n 1, 1) := by decide +kernel
theorem dX0_putOver_19 : decode cX0_putOver 19 = .ok (.iastore, 1) := by decide +kernel
theorem dX0_putOver_20 : decode cX0_putOver 20 = .ok (.aload_n 0, 1) := by decide +kernel
theorem dX0_putOver_21 : decode cX0_putOver 21 = .ok (.getfield 15, 3) := by decide +kernel
theorem dX0_putOver_24 : decode cX0_putOver 24 = .ok (.aload_n 0, 1) := by decide +kernel
theorem dX0_putOver_25 : decode cX0_putOver 25 = .ok (.getfield 24, 3) := by decide +kernel
theorem dX0_putOver_28 : decode cX0_putOver 28 = .ok (.iload_n 2, 1) := by decide +kernel
theorem dX0_putOver_29 : decode cX0_putOver 29 = .ok (.iastore, 1) := by decide +kernel
theorem dX0_putOver_30 : decode cX0_putOver 30 = .ok (.aload_n 0, 1) := by decide +kernel
theorem dX0_putOver_31 : decode cX0_putOver 31 = .ok (.getfield 18, 3) := by decide +kernel
theorem dX0_putOver_34 : decode cX0_putOver 34 = .ok (.aload_n 0, 1) := by decide +kernel
theorem dX0_putOver_35 : decode cX0_putOver 35 = .ok (.getfield 24, 3) := by decide +kernel
theorem dX0_putOver_38 : decode cX0_putOver 38 = .ok (.iload_n 3, 1) := by decide +kernel
theorem dX0_putOver_39 : decode cX0_putOver 39 = .ok (.iastore, 1) := by decide +kernel
theorem dX0_putOver_40 : decode cX0_putOver 40 = .ok (.aload_n 0, 1) := by decide +kernel
theorem dX0_putOver_41 : decode cX0_putOver 41 = .ok (.getfield 21, 3) := by decide +kernel
theorem dX0_putOver_44 : decode cX0_putOver 44 = .ok (.aload_n 0, 1) := by decide +kernel
theorem dX0_putOver_45 : decode cX0_putOver 45 = .ok (.getfield 24, 3) := by decide +kernel
theorem dX0_putOver_48 : decode cX0_putOver 48 = .ok (.aload_n 0, 1) := by decide +kernel
theorem dX0_putOver_49 : decode cX0_putOver 49 = .ok (.getfield 28, 3) := by decide +kernel
theorem dX0_putOver_52 : decode cX0_putOver 52 = .ok (.iastore, 1) := by decide +kernel
theorem dX0_putOver_53 : decode cX0_putOver 53 = .ok (.aload_n 0, 1) := by decide +kernel
theorem dX0_putOver_54 : decode cX0_putOver 54 = .ok (.dup, 1) := by decide +kernel
theorem dX0_putOver_55 : decode cX0_putOver 55 = .ok (.getfield 24, 3) := by decide +kernel
theorem dX0_putOver_58 : decode cX0_putOver 58 = .ok (.iconst 1, 1) := by decide +kernel
theorem dX0_putOver_59 : decode cX0_putOver 59 = .ok (.iadd, 1) := by decide +kernel
theorem dX0_putOver_60 : decode cX0_putOver 60 = .ok (.putfield 24, 3) := by decide +kernel
theorem dX0_putOver_63 : decode cX0_putOver 63 = .ok (.return_, 1) := by decide +kernel
set_option maxRecDepth 20000 in
theorem ggX0_takeOut_X0_has : GoodIn wsX0_takeOut wsX0_has := goodIn_r _ [10, 1, 11, 12, 13, 14, 15, 16, 17, 18] (by decide +kernel) (by decide +kernel)
set_option maxRecDepth 20000 in
theorem gX0_takeOut_X0_has : GoodIn wsX0_takeOut (wsV RX0 57 RX0 yX0_has wsX0_has) := goodIn_app (goodIn_of _ (by decide +kernel)) ggX0_takeOut_X0_has
theorem dX0_takeOut_0 : decode cX0_takeOut 0 = .ok (.aload_n 0, 1) := by decide +kernel
theorem dX0_takeOut_1 : decode cX0_takeOut 1 = .ok (.iload_n 1, 1) := by decide +kernel
theorem dX0_takeOut_2 : decode cX0_takeOut 2 = .ok (.invokevirtual 57, 3) := by decide +kernel
theorem dX0_takeOut_5 : decode cX0_takeOut 5 = .ok (.ifCond .ne 4, 3) := by decide +kernel
theorem dX0_takeOut_8 : decode cX0_takeOut 8 = .ok (.return_, 1) := by decide +kernel
theorem dX0_takeOut_9 : decode cX0_takeOut 9 = .ok (.iload_n 1, 1) := by decide +kernel
theorem dX0_takeOut_10 : decode cX0_takeOut 10 = .ok (.istore_n 2, 1) := by decide +kernel
theorem dX0_takeOut_11 : decode cX0_takeOut 11 = .ok (.iload_n 2, 1) := by decide +kernel
theorem dX0_takeOut_12 : decode cX0_takeOut 12 = .ok (.aload_n 0, 1) := by decide +kernel
theorem dX0_takeOut_13 : decode cX0_takeOut 13 = .ok (.getfield 24, 3) := by decide +kernel
theorem dX0_takeOut_16 : decode cX0_takeOut 16 = .ok (.iconst 1, 1) := by decide +kernel
theorem dX0_takeOut_17 : decode cX0_takeOut 17 = .ok (.isub, 1) := by decide +kernel
theorem dX0_takeOut_18 : decode cX0_takeOut 18 = .ok (.if_icmp .ge 65, 3) := by decide +kernel
theorem dX0_takeOut_21 : decode cX0_takeOut 21 = .ok (.aload_n 0, 1) := by decide +kernel
theorem dX0_takeOut_22 : decode cX0_takeOut 22 = .ok (.getfield 9, 3) := by decide +kernel
theorem dX0_takeOut_25 : decode cX0_takeOut 25 = .ok (.iload_n 2, 1) := by decide +kernel
theorem dX0_takeOut_26 : decode cX0_takeOut 26 = .ok (.aload_n 0, 1) := by decide +kernel
theorem dX0_takeOut_27 : decode cX0_takeOut 27 = .ok (.getfield 9, 3) := by decide +kernel
theorem dX0_takeOut_30 : decode cX0_takeOut 30 = .ok (.iload_n 2, 1) := by decide +kernel
theorem dX0_takeOut_31 : decode cX0_takeOut 31 = .ok (.iconst 1, 1) := by decide +kernel
theorem dX0_takeOut_32 : decode cX0_takeOut 32 = .ok (.iadd, 1) := by decide +kernel
theorem dX0_takeOut_33 : decode cX0_takeOut 33 = .ok (.iaload, 1) := by decide +kernel
theorem dX0_takeOut_34 : decode cX0_takeOut 34 = .ok (.iastore, 1) := by decide +kernel
theorem dX0_takeOut_35 : decode cX0_takeOut 35 = .ok (.aload_n 0, 1) := by decide +kernel
theorem dX0_takeOut_36 : decode cX0_takeOut 36 = .ok (.getfield 15, 3) := by decide +kernel
theorem dX0_takeOut_39 : decode cX0_takeOut 39 = .ok (.iload_n 2, 1) := by decide +kernel
theorem dX0_takeOut_40 : decode cX0_takeOut 40 = .ok (.aload_n 0, 1) := by decide +kernel
theorem dX0_takeOut_41 : decode cX0_takeOut 41 = .ok (.getfield 15, 3) := by decide +kernel
theorem dX0_takeOut_44 : decode cX0_takeOut 44 = .ok (.iload_n 2, 1) := by decide +kernel
theorem dX0_takeOut_45 : decode cX0_takeOut 45 = .ok (.iconst 1, 1) := by decide +kernel
theorem dX0_takeOut_46 : decode cX0_takeOut 46 = .ok (.iadd, 1) := by decide +kernel
theorem dX0_takeOut_47 : decode cX0_takeOut 47 = .ok (.iaload, 1) := by decide +kernel
theorem dX0_takeOut_48 : decode cX0_takeOut 48 = .ok (.iastore, 1) := by decide +kernel
theorem dX0_takeOut_49 : decode cX0_takeOut 49 = .ok (.aload_n 0, 1) := by decide +kernel
theorem dX0_takeOut_50 : decode cX0_takeOut 50 = .ok (.getfield 18, 3) := by decide +kernel
theorem dX0_takeOut_53 : decode cX0_takeOut 53 = .ok (.iload_n 2, 1) := by decide +kernel
theorem dX0_takeOut_54 : decode cX0_takeOut 54 = .ok (.aload_n 0, 1) := by decide +kernel
theorem dX0_takeOut_55 : decode cX0_takeOut 55 = .ok (.getfield 18, 3) := by decide +kernel
theorem dX0_takeOut_58 : decode cX0_takeOut 58 = .ok (.iload_n 2, 1) := by decide +kernel
theorem dX0_takeOut_59 : decode cX0_takeOut 59 = .ok (.iconst 1, 1) := by decide +kernel
theorem dX0_takeOut_60 : decode cX0_takeOut 60 = .ok (.iadd, 1) := by decide +kernel
theorem dX0_takeOut_61 : decode cX0_takeOut 61 = .ok (.iaload, 1) := by decide +kernel
theorem dX0_takeOut_62 : decode cX0_takeOut 62 = .ok (.iastore, 1) := by decide +kernel
theorem dX0_takeOut_63 : decode cX0_takeOut 63 = .ok (.aload_n 0, 1) := by decide +kernel
theorem dX0_takeOut_64 : decode cX0_takeOut 64 = .ok (.getfield 21, 3) := by decide +kernel
theorem dX0_takeOut_67 : decode cX0_takeOut 67 = .ok (.iload_n 2, 1) := by decide +kernel
theorem dX0_takeOut_68 : decode cX0_takeOut 68 = .ok (.aload_n 0, 1) := by decide +kernel
theorem dX0_takeOut_69 : decode cX0_takeOut 69 = .ok (.getfield 21, 3) := by decide +kernel
theorem dX0_takeOut_72 : decode cX0_takeOut 72 = .ok (.iload_n 2, 1) := by decide +kernel
theorem dX0_takeOut_73 : decode cX0_takeOut 73 = .ok (.iconst 1, 1) := by decide +kernel
theorem dX0_takeOut_74 : decode cX0_takeOut 74 = .ok (.iadd, 1) := by decide +kernel
theorem dX0_takeOut_75 : decode cX0_takeOut 75 = .ok (.iaload, 1) := by decide +kernel
theorem dX0_takeOut_76 : decode cX0_takeOut 76 = .ok (.iastore, 1) := by decide +kernel
theorem dX0_takeOut_77 : decode cX0_takeOut 77 = .ok (.iinc 2 1, 3) := by decide +kernel
theorem dX0_takeOut_80 : decode cX0_takeOut 80 = .ok (.goto (-69), 3) := by decide +kernel
theorem dX0_takeOut_83 : decode cX0_takeOut 83 = .ok (.aload_n 0, 1) := by decide +kernel
theorem dX0_takeOut_84 : decode cX0_takeOut 84 = .ok (.dup, 1) := by decide +kernel
theorem dX0_takeOut_85 : decode cX0_takeOut 85 = .ok (.getfield 24, 3) := by decide +kernel
theorem dX0_takeOut_88 : decode cX0_takeOut 88 = .ok (.iconst 1, 1) := by decide +kernel
theorem dX0_takeOut_89 : decode cX0_takeOut 89 = .ok (.isub, 1) := by decide +kernel
theorem dX0_takeOut_90 : decode cX0_takeOut 90 = .ok (.putfield 24, 3) := by decide +kernel
theorem dX0_takeOut_93 : decode cX0_takeOut 93 = .ok (.return_, 1) := by decide +kernel
theorem dX0_thicken_0 : decode cX0_thicken 0 = .ok (.iconst 0, 1) := by decide +kernel
theorem dX0_thicken_1 : decode cX0_thicken 1 = .ok (.istore_n 2, 1) := by decide +kernel
theorem dX0_thicken_2 : decode cX0_thicken 2 = .ok (.iload_n 2, 1) := by decide +kernel
theorem dX0_thicken_3 : decode cX0_thicken 3 = .ok (.aload_n 0, 1) := by decide +kernel
theorem dX0_thicken_4 : decode cX0_thicken 4 = .ok (.getfield 24, 3) := by decide +kernel
theorem dX0_thicken_7 : decode cX0_thicken 7 = .ok (.if_icmp .ge 30, 3) := by decide +kernel
theorem dX0_thicken_10 : decode cX0_thicken 10 = .ok (.aload_n 0, 1) := by decide +kernel
theorem dX0_thicken_11 : decode cX0_thicken 11 = .ok (.getfield 15, 3) := by decide +kernel
theorem dX0_thicken_14 : decode cX0_thicken 14 = .ok (.iload_n 2, 1) := by decide +kernel
theorem dX0_thicken_15 : decode cX0_thicken 15 = .ok (.bipush 20, 2) := by decide +kernel
theorem dX0_thicken_17 : decode cX0_thicken 17 = .ok (.aload_n 0, 1) := by decide +kernel
theorem dX0_thicken_18 : decode cX0_thicken 18 = .ok (.getfield 15, 3) := by decide +kernel
theorem dX0_thicken_21 : decode cX0_thicken 21 = .ok (.iload_n 2, 1) := by decide +kernel
theorem dX0_thicken_22 : decode cX0_thicken 22 = .ok (.iaload, 1) := by decide +kernel
theorem dX0_thicken_23 : decode cX0_thicken 23 = .ok (.aload_n 1, 1) := by decide +kernel
theorem dX0_thicken_24 : decode cX0_thicken 24 = .ok (.iload_n 2, 1) := by decide +kernel
theorem dX0_thicken_25 : decode cX0_thicken 25 = .ok (.iaload, 1) := by decide +kernel
theorem dX0_thicken_26 : decode cX0_thicken 26 = .ok (.iadd, 1) := by decide +kernel
theorem dX0_thicken_27 : decode cX0_thicken 27 = .ok (.invokestatic 61, 3) := by decide +kernel
theorem dX0_thicken_30 : decode cX0_thicken 30 = .ok (.iastore, 1) := by decide +kernel
theorem dX0_thicken_31 : decode cX0_thicken 31 = .ok (.iinc 2 1, 3) := by decide +kernel
theorem dX0_thicken_34 : decode cX0_thicken 34 = .ok (.goto (-32), 3) := by decide +kernel
theorem dX0_thicken_37 : decode cX0_thicken 37 = .ok (.return_, 1) := by decide +kernel
set_option maxRecDepth 20000 in
theorem ggX0_passYear_X0_mostTaken : GoodIn wsX0_passYear wsX0_mostTaken := goodIn_r _ [12, 13, 14, 7, 15, 16, 17, 11, 18, 19, 31, 32, 33, 34, 35, 36, 37, 38] (by decide +kernel) (by decide +kernel)
set_option maxRecDepth 20000 in
theorem gX0_passYear_X0_mostTaken : GoodIn wsX0_passYear (wsV RX0 51 RX0 yX0_mostTaken wsX0_mostTaken) := goodIn_app (goodIn_of _ (by decide +kernel)) ggX0_passYear_X0_mostTaken
set_option maxRecDepth 20000 in
theorem ggX0_passYear_X0_dampen : GoodIn wsX0_passYear wsX0_dampen := goodIn_r _ [23, 19, 24, 25, 4, 26, 2, 3, 5, 31, 32, 33, 34, 35, 36, 37, 38] (by decide +kernel) (by decide +kernel)
set_option maxRecDepth 20000 in
theorem gX0_passYear_X0_dampen : GoodIn wsX0_passYear (wsV RX0 67 RX0 yX0_dampen wsX0_dampen) := goodIn_app (goodIn_of _ (by decide +kernel)) ggX0_passYear_X0_dampen
set_option maxRecDepth 20000 in
theorem ggX0_passYear_X0_wearTop : GoodIn wsX0_passYear wsX0_wearTop := goodIn_r _ [30, 1, 14, 31, 32, 33, 34, 35, 36, 37, 38] (by decide +kernel) (by decide +kernel)
set_option maxRecDepth 20000 in
theorem gX0_passYear_X0_wearTop : GoodIn wsX0_passYear (wsV RX0 71 RX0 yX0_wearTop wsX0_wearTop) := goodIn_app (goodIn_of _ (by decide +kernel)) ggX0_passYear_X0_wearTop
theorem dX0_passYear_0 : decode cX0_passYear 0 = .ok (.iload_n 1, 1) := by decide +kernel
theorem dX0_passYear_1 : decode cX0_passYear 1 = .ok (.istore_n 2, 1) := by decide +kernel
theorem dX0_passYear_2 : decode cX0_passYear 2 = .ok (.aload_n 0, 1) := by decide +kernel
theorem dX0_passYear_3 : decode cX0_passYear 3 = .ok (.getfield 24, 3) := by decide +kernel
theorem dX0_passYear_6 : decode cX0_passYear 6 = .ok (.iconst 1, 1) := by decide +kernel
theorem dX0_passYear_7 : decode cX0_passYear 7 = .ok (.isub, 1) := by decide +kernel
theorem dX0_passYear_8 : decode cX0_passYear 8 = .ok (.istore_n 3, 1) := by decide +kernel
theorem dX0_passYear_9 : decode cX0_passYear 9 = .ok (.iload_n 3, 1) := by decide +kernel
theorem dX0_passYear_10 : decode cX0_passYear 10 = .ok (.ifCond .lt 32, 3) := by decide +kernel
theorem dX0_passYear_13 : decode cX0_passYear 13 = .ok (.iload_n 2, 1) := by decide +kernel
theorem dX0_passYear_14 : decode cX0_passYear 14 = .ok (.aload_n 0, 1) := by decide +kernel
theorem dX0_passYear_15 : decode cX0_passYear 15 = .ok (.iload_n 3, 1) := by decide +kernel
theorem dX0_passYear_16 : decode cX0_passYear 16 = .ok (.invokevirtual 51, 3) := by decide +kernel
theorem dX0_passYear_19 : decode cX0_passYear 19 = .ok (.invokestatic 61, 3) := by decide +kernel
theorem dX0_passYear_22 : decode cX0_passYear 22 = .ok (.istore 4, 2) := by decide +kernel
theorem dX0_passYear_24 : decode cX0_passYear 24 = .ok (.iload_n 2, 1) := by decide +kernel
theorem dX0_passYear_25 : decode cX0_passYear 25 = .ok (.iload 4, 2) := by decide +kernel
theorem dX0_passYear_27 : decode cX0_passYear 27 = .ok (.isub, 1) := by decide +kernel
theorem dX0_passYear_28 : decode cX0_passYear 28 = .ok (.istore_n 2, 1) := by decide +kernel
theorem dX0_passYear_29 : decode cX0_passYear 29 = .ok (.aload_n 0, 1) := by decide +kernel
theorem dX0_passYear_30 : decode cX0_passYear 30 = .ok (.iload_n 3, 1) := by decide +kernel
theorem dX0_passYear_31 : decode cX0_passYear 31 = .ok (.iload 4, 2) := by decide +kernel
theorem dX0_passYear_33 : decode cX0_passYear 33 = .ok (.invokevirtual 67, 3) := by decide +kernel
theorem dX0_passYear_36 : decode cX0_passYear 36 = .ok (.iinc 3 (-1), 3) := by decide +kernel
theorem dX0_passYear_39 : decode cX0_passYear 39 = .ok (.goto (-30), 3) := by decide +kernel
theorem dX0_passYear_42 : decode cX0_passYear 42 = .ok (.aload_n 0, 1) := by decide +kernel
theorem dX0_passYear_43 : decode cX0_passYear 43 = .ok (.dup, 1) := by decide +kernel
theorem dX0_passYear_44 : decode cX0_passYear 44 = .ok (.getfield 31, 3) := by decide +kernel
theorem dX0_passYear_47 : decode cX0_passYear 47 = .ok (.iload_n 2, 1) := by decide +kernel
theorem dX0_passYear_48 : decode cX0_passYear 48 = .ok (.iadd, 1) := by decide +kernel
theorem dX0_passYear_49 : decode cX0_passYear 49 = .ok (.putfield 31, 3) := by decide +kernel
theorem dX0_passYear_52 : decode cX0_passYear 52 = .ok (.aload_n 0, 1) := by decide +kernel
theorem dX0_passYear_53 : decode cX0_passYear 53 = .ok (.invokevirtual 71, 3) := by decide +kernel
theorem dX0_passYear_56 : decode cX0_passYear 56 = .ok (.aload_n 0, 1) := by decide +kernel
theorem dX0_passYear_57 : decode cX0_passYear 57 = .ok (.dup, 1) := by decide +kernel
theorem dX0_passYear_58 : decode cX0_passYear 58 = .ok (.getfield 28, 3) := by decide +kernel
theorem dX0_passYear_61 : decode cX0_passYear 61 = .ok (.iconst 1, 1) := by decide +kernel
theorem dX0_passYear_62 : decode cX0_passYear 62 = .ok (.iadd, 1) := by decide +kernel
theorem dX0_passYear_63 : decode cX0_passYear 63 = .ok (.putfield 28, 3) := by decide +kernel
theorem dX0_passYear_66 : decode cX0_passYear 66 = .ok (.iload_n 2, 1) := by decide +kernel
theorem dX0_passYear_67 : decode cX0_passYear 67 = .ok (.ireturn, 1) := by decide +kernel
theorem dX0_dampen_0 : decode cX0_dampen 0 = .ok (.aload_n 0, 1) := by decide +kernel
theorem dX0_dampen_1 : decode cX0_dampen 1 = .ok (.getfield 18, 3) := by decide +kernel
theorem dX0_dampen_4 : decode cX0_dampen 4 = .ok (.iload_n 1, 1) := by decide +kernel
theorem dX0_dampen_5 : decode cX0_dampen 5 = .ok (.iload_n 2, 1) := by decide +kernel
theorem dX0_dampen_6 : decode cX0_dampen 6 = .ok (.ifCond .ne 18, 3) := by decide +kernel
theorem dX0_dampen_9 : decode cX0_dampen 9 = .ok (.iconst 0, 1) := by decide +kernel
theorem dX0_dampen_10 : decode cX0_dampen 10 = .ok (.aload_n 0, 1) := by decide +kernel
theorem dX0_dampen_11 : decode cX0_dampen 11 = .ok (.getfield 18, 3) := by decide +kernel
theorem dX0_dampen_14 : decode cX0_dampen 14 = .ok (.iload_n 1, 1) := by decide +kernel
theorem dX0_dampen_15 : decode cX0_dampen 15 = .ok (.iaload, 1) := by decide +kernel
theorem dX0_dampen_16 : decode cX0_dampen 16 = .ok (.iconst 2, 1) := by decide +kernel
theorem dX0_dampen_17 : decode cX0_dampen 17 = .ok (.isub, 1) := by decide +kernel
theorem dX0_dampen_18 : decode cX0_dampen 18 = .ok (.invokestatic 74, 3) := by decide +kernel
theorem dX0_dampen_21 : decode cX0_dampen 21 = .ok (.goto 18, 3) := by decide +kernel
theorem dX0_dampen_24 : decode cX0_dampen 24 = .ok (.bipush 9, 2) := by decide +kernel
theorem dX0_dampen_26 : decode cX0_dampen 26 = .ok (.aload_n 0, 1) := by decide +kernel
theorem dX0_dampen_27 : decode cX0_dampen 27 = .ok (.getfield 18, 3) := by decide +kernel
theorem dX0_dampen_30 : decode cX0_dampen 30 = .ok (.iload_n 1, 1) := by decide +kernel
theorem dX0_dampen_31 : decode cX0_dampen 31 = .ok (.iaload, 1) := by decide +kernel
theorem dX0_dampen_32 : decode cX0_dampen 32 = .ok (.iload_n 2, 1) := by decide +kernel
theorem dX0_dampen_33 : decode cX0_dampen 33 = .ok (.iconst 2, 1) := by decide +kernel
theorem dX0_dampen_34 : decode cX0_dampen 34 = .ok (.idiv, 1) := by decide +kernel
theorem dX0_dampen_35 : decode cX0_dampen 35 = .ok (.iadd, 1) := by decide +kernel
theorem dX0_dampen_36 : decode cX0_dampen 36 = .ok (.invokestatic 61, 3) := by decide +kernel
theorem dX0_dampen_39 : decode cX0_dampen 39 = .ok (.iastore, 1) := by decide +kernel
theorem dX0_dampen_40 : decode cX0_dampen 40 = .ok (.return_, 1) := by decide +kernel
theorem dX0_wearTop_0 : decode cX0_wearTop 0 = .ok (.aload_n 0, 1) := by decide +kernel
theorem dX0_wearTop_1 : decode cX0_wearTop 1 = .ok (.getfield 24, 3) := by decide +kernel
theorem dX0_wearTop_4 : decode cX0_wearTop 4 = .ok (.ifCond .ne 4, 3) := by decide +kernel
theorem dX0_wearTop_7 : decode cX0_wearTop 7 = .ok (.return_, 1) := by decide +kernel
theorem dX0_wearTop_8 : decode cX0_wearTop 8 = .ok (.aload_n 0, 1) := by decide +kernel
theorem dX0_wearTop_9 : decode cX0_wearTop 9 = .ok (.getfield 15, 3) := by decide +kernel
theorem dX0_wearTop_12 : decode cX0_wearTop 12 = .ok (.aload_n 0, 1) := by decide +kernel
theorem dX0_wearTop_13 : decode cX0_wearTop 13 = .ok (.getfield 24, 3) := by decide +kernel
theorem dX0_wearTop_16 : decode cX0_wearTop 16 = .ok (.iconst 1, 1) := by decide +kernel
theorem dX0_wearTop_17 : decode cX0_wearTop 17 = .ok (.isub, 1) := by decide +kernel
theorem dX0_wearTop_18 : decode cX0_wearTop 18 = .ok (.dup2, 1) := by decide +kernel
theorem dX0_wearTop_19 : decode cX0_wearTop 19 = .ok (.iaload, 1) := by decide +kernel
theorem dX0_wearTop_20 : decode cX0_wearTop 20 = .ok (.iconst 1, 1) := by decide +kernel
theorem dX0_wearTop_21 : decode cX0_wearTop 21 = .ok (.isub, 1) := by decide +kernel
theorem dX0_wearTop_22 : decode cX0_wearTop 22 = .ok (.iastore, 1) := by decide +kernel
theorem dX0_wearTop_23 : decode cX0_wearTop 23 = .ok (.aload_n 0, 1) := by decide +kernel
theorem dX0_wearTop_24 : decode cX0_wearTop 24 = .ok (.getfield 15, 3) := by decide +kernel
theorem dX0_wearTop_27 : decode cX0_wearTop 27 = .ok (.aload_n 0, 1) := by decide +kernel
theorem dX0_wearTop_28 : decode cX0_wearTop 28 = .ok (.getfield 24, 3) := by decide +kernel
theorem dX0_wearTop_31 : decode cX0_wearTop 31 = .ok (.iconst 1, 1) := by decide +kernel
theorem dX0_wearTop_32 : decode cX0_wearTop 32 = .ok (.isub, 1) := by decide +kernel
theorem dX0_wearTop_33 : decode cX0_wearTop 33 = .ok (.iaload, 1) := by decide +kernel
theorem dX0_wearTop_34 : decode cX0_wearTop 34 = .ok (.ifCond .gt 13, 3) := by decide +kernel
theorem dX0_wearTop_37 : decode cX0_wearTop 37 = .ok (.aload_n 0, 1) := by decide +kernel
theorem dX0_wearTop_38 : decode cX0_wearTop 38 = .ok (.dup, 1) := by decide +kernel
theorem dX0_wearTop_39 : decode cX0_wearTop 39 = .ok (.getfield 24, 3) := by decide +kernel
theorem dX0_wearTop_42 : decode cX0_wearTop 42 = .ok (.iconst 1, 1) := by decide +kernel
theorem dX0_wearTop_43 : decode cX0_wearTop 43 = .ok (.isub, 1) := by decide +kernel
theorem dX0_wearTop_44 : decode cX0_wearTop 44 = .ok (.putfield 24, 3) := by decide +kernel
theorem dX0_wearTop_47 : decode cX0_wearTop 47 = .ok (.return_, 1) := by decide +kernel
theorem dX0_stopsFire_0 : decode cX0_stopsFire 0 = .ok (.aload_n 0, 1) := by decide +kernel
theorem dX0_stopsFire_1 : decode cX0_stopsFire 1 = .ok (.getfield 18, 3) := by decide +kernel
theorem dX0_stopsFire_4 : decode cX0_stopsFire 4 = .ok (.iload_n 1, 1) := by decide +kernel
theorem dX0_stopsFire_5 : decode cX0_stopsFire 5 = .ok (.iaload, 1) := by decide +kernel
theorem dX0_stopsFire_6 : decode cX0_stopsFire 6 = .ok (.bipush 6, 2) := by decide +kernel
theorem dX0_stopsFire_8 : decode cX0_stopsFire 8 = .ok (.if_icmp .le 7, 3) := by decide +kernel
theorem dX0_stopsFire_11 : decode cX0_stopsFire 11 = .ok (.iconst 1, 1) := by decide +kernel
theorem dX0_stopsFire_12 : decode cX0_stopsFire 12 = .ok (.goto 4, 3) := by decide +kernel
theorem dX0_stopsFire_15 : decode cX0_stopsFire 15 = .ok (.iconst 0, 1) := by decide +kernel
theorem dX0_stopsFire_16 : decode cX0_stopsFire 16 = .ok (.ireturn, 1) := by decide +kernel
set_option maxRecDepth 20000 in
theorem ggX0_burn_X0_stopsFire : GoodIn wsX0_burn wsX0_stopsFire := goodIn_r _ [6, 7, 13, 14, 15, 16, 17, 18, 19, 20] (by decide +kernel) (by decide +kernel)
set_option maxRecDepth 20000 in
theorem gX0_burn_X0_stopsFire : GoodIn wsX0_burn (wsV RX0 77 RX0 yX0_stopsFire wsX0_stopsFire) := goodIn_app (goodIn_of _ (by decide +kernel)) ggX0_burn_X0_stopsFire
set_option maxRecDepth 20000 in
theorem ggX0_burn_X0_heavinessOf : GoodIn wsX0_burn wsX0_heavinessOf := goodIn_r _ [11, 12, 7, 13, 14, 15, 16, 17, 18, 19, 20] (by decide +kernel) (by decide +kernel)
set_option maxRecDepth 20000 in
theorem gX0_burn_X0_heavinessOf : GoodIn wsX0_burn (wsV RX0 54 RX0 yX0_heavinessOf wsX0_heavinessOf) := goodIn_app (goodIn_of _ (by decide +kernel)) ggX0_burn_X0_heavinessOf
theorem dX0_burn_0 : decode cX0_burn 0 = .ok (.aload_n 0, 1) := by decide +kernel
theorem dX0_burn_1 : decode cX0_burn 1 = .ok (.getfield 24, 3) := by decide +kernel
theorem dX0_burn_4 : decode cX0_burn 4 = .ok (.istore_n 2, 1) := by decide +kernel
theorem dX0_burn_5 : decode cX0_burn 5 = .ok (.iload_n 1, 1) := by decide +kernel
theorem dX0_burn_6 : decode cX0_burn 6 = .ok (.istore_n 3, 1) := by decide +kernel
theorem dX0_burn_7 : decode cX0_burn 7 = .ok (.iload_n 2, 1) := by decide +kernel
theorem dX0_burn_8 : decode cX0_burn 8 = .ok (.iconst 1, 1) := by decide +kernel
theorem dX0_burn_9 : decode cX0_burn 9 = .ok (.isub, 1) := by decide +kernel
theorem dX0_burn_10 : decode cX0_burn 10 = .ok (.istore 4, 2) := by decide +kernel
theorem dX0_burn_12 : decode cX0_burn 12 = .ok (.iload 4, 2) := by decide +kernel
theorem dX0_burn_14 : decode cX0_burn 14 = .ok (.ifCond .lt 50, 3) := by decide +kernel
theorem dX0_burn_17 : decode cX0_burn 17 = .ok (.aload_n 0, 1) := by decide +kernel
theorem dX0_burn_18 : decode cX0_burn 18 = .ok (.iload 4, 2) := by decide +kernel
theorem dX0_burn_20 : decode cX0_burn 20 = .ok (.invokevirtual 77, 3) := by decide +kernel
theorem dX0_burn_23 : decode cX0_burn 23 = .ok (.ifCond .ne 41, 3) := by decide +kernel
theorem dX0_burn_26 : decode cX0_burn 26 = .ok (.iload_n 3, 1) := by decide +kernel
theorem dX0_burn_27 : decode cX0_burn 27 = .ok (.aload_n 0, 1) := by decide +kernel
theorem dX0_burn_28 : decode cX0_burn 28 = .ok (.iload 4, 2) := by decide +kernel
theorem dX0_burn_30 : decode cX0_burn 30 = .ok (.invokevirtual 54, 3) := by decide +kernel
theorem dX0_burn_33 : decode cX0_burn 33 = .ok (.if_icmp .ge 6, 3) := by decide +kernel
theorem dX0_burn_36 : decode cX0_burn 36 = .ok (.goto 28, 3) := by decide +kernel
theorem dX0_burn_39 : decode cX0_burn 39 = .ok (.iload_n 3, 1) := by decide +kernel
theorem dX0_burn_40 : decode cX0_burn 40 = .ok (.aload_n 0, 1) := by decide +kernel
theorem dX0_burn_41 : decode cX0_burn 41 = .ok (.iload 4, 2) := by decide +kernel
theorem dX0_burn_43 : decode cX0_burn 43 = .ok (.invokevirtual 54, 3) := by decide +kernel
theorem dX0_burn_46 : decode cX0_burn 46 = .ok (.isub, 1) := by decide +kernel
theorem dX0_burn_47 : decode cX0_burn 47 = .ok (.istore_n 3, 1) := by decide +kernel
theorem dX0_burn_48 : decode cX0_burn 48 = .ok (.aload_n 0, 1) := by decide +kernel
theorem dX0_burn_49 : decode cX0_burn 49 = .ok (.dup, 1) := by decide +kernel
theorem dX0_burn_50 : decode cX0_burn 50 = .ok (.getfield 24, 3) := by decide +kernel
theorem dX0_burn_53 : decode cX0_burn 53 = .ok (.iconst 1, 1) := by decide +kernel
theorem dX0_burn_54 : decode cX0_burn 54 = .ok (.isub, 1) := by decide +kernel
theorem dX0_burn_55 : decode cX0_burn 55 = .ok (.putfield 24, 3) := by decide +kernel
theorem dX0_burn_58 : decode cX0_burn 58 = .ok (.iinc 4 (-1), 3) := by decide +kernel
theorem dX0_burn_61 : decode cX0_burn 61 = .ok (.goto (-49), 3) := by decide +kernel
theorem dX0_burn_64 : decode cX0_burn 64 = .ok (.iload_n 2, 1) := by decide +kernel
theorem dX0_burn_65 : decode cX0_burn 65 = .ok (.aload_n 0, 1) := by decide +kernel
theorem dX0_burn_66 : decode cX0_burn 66 = .ok (.getfield 24, 3) := by decide +kernel
theorem dX0_burn_69 : decode cX0_burn 69 = .ok (.isub, 1) := by decide +kernel
theorem dX0_burn_70 : decode cX0_burn 70 = .ok (.ireturn, 1) := by decide +kernel
theorem dX0_drawOut_0 : decode cX0_drawOut 0 = .ok (.aload_n 0, 1) := by decide +kernel
theorem dX0_drawOut_1 : decode cX0_drawOut 1 = .ok (.aload_n 0, 1) := by decide +kernel
theorem dX0_drawOut_2 : decode cX0_drawOut 2 = .ok (.getfield 34, 3) := by decide +kernel
theorem dX0_drawOut_5 : decode cX0_drawOut 5 = .ok (.i2l, 1) := by decide +kernel
theorem dX0_drawOut_6 : decode cX0_drawOut 6 = .ok (.ldc2_w 80, 3) := by decide +kernel
theorem dX0_drawOut_9 : decode cX0_drawOut 9 = .ok (.lmul, 1) := by decide +kernel
theorem dX0_drawOut_10 : decode cX0_drawOut 10 = .ok (.ldc2_w 82, 3) := by decide +kernel
theorem dX0_drawOut_13 : decode cX0_drawOut 13 = .ok (.ladd, 1) := by decide +kernel
theorem dX0_drawOut_14 : decode cX0_drawOut 14 = .ok (.ldc2_w 84, 3) := by decide +kernel
theorem dX0_drawOut_17 : decode cX0_drawOut 17 = .ok (.land, 1) := by decide +kernel
theorem dX0_drawOut_18 : decode cX0_drawOut 18 = .ok (.l2i, 1) := by decide +kernel
theorem dX0_drawOut_19 : decode cX0_drawOut 19 = .ok (.putfield 34, 3) := by decide +kernel
theorem dX0_drawOut_22 : decode cX0_drawOut 22 = .ok (.aload_n 0, 1) := by decide +kernel
theorem dX0_drawOut_23 : decode cX0_drawOut 23 = .ok (.getfield 24, 3) := by decide +kernel
theorem dX0_drawOut_26 : decode cX0_drawOut 26 = .ok (.ifCond .eq 15, 3) := by decide +kernel
theorem dX0_drawOut_29 : decode cX0_drawOut 29 = .ok (.aload_n 0, 1) := by decide +kernel
theorem dX0_drawOut_30 : decode cX0_drawOut 30 = .ok (.getfield 34, 3) := by decide +kernel
theorem dX0_drawOut_33 : decode cX0_drawOut 33 = .ok (.ldc 86, 2) := by decide +kernel
theorem dX0_drawOut_35 : decode cX0_drawOut 35 = .ok (.idiv, 1) := by decide +kernel
theorem dX0_drawOut_36 : decode cX0_drawOut 36 = .ok (.iconst 3, 1) := by decide +kernel
theorem dX0_drawOut_37 : decode cX0_drawOut 37 = .ok (.irem, 1) := by decide +kernel
theorem dX0_drawOut_38 : decode cX0_drawOut 38 = .ok (.ifCond .eq 4, 3) := by decide +kernel
theorem dX0_drawOut_41 : decode cX0_drawOut 41 = .ok (.return_, 1) := by decide +kernel
theorem dX0_drawOut_42 : decode cX0_drawOut 42 = .ok (.aload_n 0, 1) := by decide +kernel
theorem dX0_drawOut_43 : decode cX0_drawOut 43 = .ok (.getfield 34, 3) := by decide +kernel
theorem dX0_drawOut_46 : decode cX0_drawOut 46 = .ok (.sipush 128, 3) := by decide +kernel
theorem dX0_drawOut_49 : decode cX0_drawOut 49 = .ok (.idiv, 1) := by decide +kernel
theorem dX0_drawOut_50 : decode cX0_drawOut 50 = .ok (.aload_n 0, 1) := by decide +kernel
theorem dX0_drawOut_51 : decode cX0_drawOut 51 = .ok (.getfield 24, 3) := by decide +kernel
theorem dX0_drawOut_54 : decode cX0_drawOut 54 = .ok (.irem, 1) := by decide +kernel
theorem dX0_drawOut_55 : decode cX0_drawOut 55 = .ok (.istore_n 1, 1) := by decide +kernel
theorem dX0_drawOut_56 : decode cX0_drawOut 56 = .ok (.aload_n 0, 1) := by decide +kernel
theorem dX0_drawOut_57 : decode cX0_drawOut 57 = .ok (.getfield 15, 3) := by decide +kernel
theorem dX0_drawOut_60 : decode cX0_drawOut 60 = .ok (.iload_n 1, 1) := by decide +kernel
theorem dX0_drawOut_61 : decode cX0_drawOut 61 = .ok (.iaload, 1) := by decide +kernel
theorem dX0_drawOut_62 : decode cX0_drawOut 62 = .ok (.iconst 1, 1) := by decide +kernel
theorem dX0_drawOut_63 : decode cX0_drawOut 63 = .ok (.if_icmp .le 13, 3) := by decide +kernel
theorem dX0_drawOut_66 : decode cX0_drawOut 66 = .ok (.aload_n 0, 1) := by decide +kernel
theorem dX0_drawOut_67 : decode cX0_drawOut 67 = .ok (.getfield 15, 3) := by decide +kernel
theorem dX0_drawOut_70 : decode cX0_drawOut 70 = .ok (.iload_n 1, 1) := by decide +kernel
theorem dX0_drawOut_71 : decode cX0_drawOut 71 = .ok (.dup2, 1) := by decide +kernel
theorem dX0_drawOut_72 : decode cX0_drawOut 72 = .ok (.iaload, 1) := by decide +kernel
theorem dX0_drawOut_73 : decode cX0_drawOut 73 = .ok (.iconst 1, 1) := by decide +kernel
theorem dX0_drawOut_74 : decode cX0_drawOut 74 = .ok (.isub, 1) := by decide +kernel
theorem dX0_drawOut_75 : decode cX0_drawOut 75 = .ok (.iastore, 1) := by decide +kernel
theorem dX0_drawOut_76 : decode cX0_drawOut 76 = .ok (.return_, 1) := by decide +kernel
set_option maxRecDepth 20000 in
theorem ggX1_init_X5_init : GoodIn wsX1_init wsX5_init := goodIn_r _ [17, 18, 2, 3, 19, 20, 21, 39, 40] (by decide +kernel) (by decide +kernel)
set_option maxRecDepth 20000 in
theorem gX1_init_X5_init_n17 : GoodIn wsX1_init (wsX5_init) := ggX1_init_X5_init
set_option maxRecDepth 20000 in
theorem ggX1_init_X0_init : GoodIn wsX1_init wsX0_init := goodIn_r _ [23, 24, 2, 3, 19, 25, 26, 27, 28, 29, 30, 31, 32, 41, 42, 43, 44, 45, 46, 47, 48] (by decide +kernel) (by decide +kernel)
set_option maxRecDepth 20000 in
theorem gX1_init_X0_init_n24 : GoodIn wsX1_init (wsX0_init) := ggX1_init_X0_init
theorem dX1_init_0 : decode cX1_init 0 = .ok (.aload_n 0, 1) := by decide +kernel
theorem dX1_init_1 : decode cX1_init 1 = .ok (.invokespecial 3, 3) := by decide +kernel
theorem dX1_init_4 : decode cX1_init 4 = .ok (.aload_n 0, 1) := by decide +kernel
theorem dX1_init_5 : decode cX1_init 5 = .ok (.bipush 80, 2) := by decide +kernel
theorem dX1_init_7 : decode cX1_init 7 = .ok (.putfield 9, 3) := by decide +kernel
theorem dX1_init_10 : decode cX1_init 10 = .ok (.aload_n 0, 1) := by decide +kernel
theorem dX1_init_11 : decode cX1_init 11 = .ok (.new 15, 3) := by decide +kernel
theorem dX1_init_14 : decode cX1_init 14 = .ok (.dup, 1) := by decide +kernel
theorem dX1_init_15 : decode cX1_init 15 = .ok (.invokespecial 17, 3) := by decide +kernel
theorem dX1_init_18 : decode cX1_init 18 = .ok (.putfield 18, 3) := by decide +kernel
theorem dX1_init_21 : decode cX1_init 21 = .ok (.aload_n 0, 1) := by decide +kernel
theorem dX1_init_22 : decode cX1_init 22 = .ok (.new 22, 3) := by decide +kernel
theorem dX1_init_25 : decode cX1_init 25 = .ok (.dup, 1) := by decide +kernel
theorem dX1_init_26 : decode cX1_init 26 = .ok (.invokespecial 24, 3) := by decide +kernel
theorem dX1_init_29 : decode cX1_init 29 = .ok (.putfield 25, 3) := by decide +kernel
theorem dX1_init_32 : decode cX1_init 32 = .ok (.aload_n 0, 1) := by decide +kernel
theorem dX1_init_33 : decode cX1_init 33 = .ok (.bipush 8, 2) := by decide +kernel
theorem dX1_init_35 : decode cX1_init 35 = .ok (.anewarray 22, 3) := by decide +kernel
theorem dX1_init_38 : decode cX1_init 38 = .ok (.putfield 29, 3) := by decide +kernel
theorem dX1_init_41 : decode cX1_init 41 = .ok (.aload_n 0, 1) := by decide +kernel
theorem dX1_init_42 : decode cX1_init 42 = .ok (.iconst 0, 1) := by decide +kernel
theorem dX1_init_43 : decode cX1_init 43 = .ok (.putfield 33, 3) := by decide +kernel
theorem dX1_init_46 : decode cX1_init 46 = .ok (.aload_n 0, 1) := by decide +kernel
theorem dX1_init_47 : decode cX1_init 47 = .ok (.iconst 0, 1) := by decide +kernel
theorem dX1_init_48 : decode cX1_init 48 = .ok (.putfield 36, 3) := by decide +kernel
theorem dX1_init_51 : decode cX1_init 51 = .ok (.iconst 0, 1) := by decide +kernel
theorem dX1_init_52 : decode cX1_init 52 = .ok (.istore_n 1, 1) := by decide +kernel
theorem dX1_init_53 : decode cX1_init 53 = .ok (.iload_n 1, 1) := by decide +kernel
theorem dX1_init_54 : decode cX1_init 54 = .ok (.bipush 8, 2) := by decide +kernel
theorem dX1_init_56 : decode cX1_init 56 = .ok (.if_icmp .ge 22, 3) := by decide +kernel
theorem dX1_init_59 : decode cX1_init 59 = .ok (.aload_n 0, 1) := by decide +kernel
theorem dX1_init_60 : decode cX1_init 60 = .ok (.getfield 29, 3) := by decide +kernel
theorem dX1_init_63 : decode cX1_init 63 = .ok (.iload_n 1, 1) := by decide +kernel
theorem dX1_init_64 : decode cX1_init 64 = .ok (.new 22, 3) := by decide +kernel
theorem dX1_init_67 : decode cX1_init 67 = .ok (.dup, 1) := by decide +kernel
theorem dX1_init_68 : decode cX1_init 68 = .ok (.invokespecial 24, 3) := by decide +kernel
theorem dX1_init_71 : decode cX1_init 71 = .ok (.aastore, 1) := by decide +kernel
theorem dX1_init_72 : decode cX1_init 72 = .ok (.iinc 1 1, 3) := by decide +kernel
theorem dX1_init_75 : decode cX1_init 75 = .ok (.goto (-22), 3) := by decide +kernel
theorem dX1_init_78 : decode cX1_init 78 = .ok (.return_, 1) := by decide +kernel
set_option maxRecDepth 20000 in
theorem ggX1_become_X5_become : GoodIn wsX1_become wsX5_become := goodIn_r _ [11, 12, 13, 14, 15, 16, 17, 42, 43] (by decide +kernel) (by decide +kernel)
set_option maxRecDepth 20000 in
theorem gX1_become_X5_become : GoodIn wsX1_become (wsV RX1 39 RX5 yX5_become wsX5_become) := goodIn_app (goodIn_of _ (by decide +kernel)) ggX1_become_X5_become
set_option maxRecDepth 20000 in
theorem ggX1_become_X0_become : GoodIn wsX1_become wsX0_become := goodIn_r _ [22, 23, 24, 25, 26, 27, 28, 21, 29, 30, 31, 32, 15, 16, 17, 33, 34, 35, 44, 45, 46, 47, 48, 49, 50, 51] (by decide +kernel) (by decide +kernel)
set_option maxRecDepth 20000 in
theorem gX1_become_X0_become : GoodIn wsX1_become (wsV RX1 43 RX0 yX0_become wsX0_become) := goodIn_app (goodIn_of _ (by decide +kernel)) ggX1_become_X0_become
theorem dX1_become_0 : decode cX1_become 0 = .ok (.aload_n 0, 1) := by decide +kernel
theorem dX1_become_1 : decode cX1_become 1 = .ok (.aload_n 1, 1) := by decide +kernel
theorem dX1_become_2 : decode cX1_become 2 = .ok (.getfield 9, 3) := by decide +kernel
theorem dX1_become_5 : decode cX1_become 5 = .ok (.putfield 9, 3) := by decide +kernel
theorem dX1_become_8 : decode cX1_become 8 = .ok (.aload_n 0, 1) := by decide +kernel
theorem dX1_become_9 : decode cX1_become 9 = .ok (.getfield 18, 3) := by decide +kernel
theorem dX1_become_12 : decode cX1_become 12 = .ok (.aload_n 1, 1) := by decide +kernel
theorem dX1_become_13 : decode cX1_become 13 = .ok (.getfield 18, 3) := by decide +kernel
theorem dX1_become_16 : decode cX1_become 16 = .ok (.invokevirtual 39, 3) := by decide +kernel
theorem dX1_become_19 : decode cX1_become 19 = .ok (.aload_n 0, 1) := by decide +kernel
theorem dX1_become_20 : decode cX1_become 20 = .ok (.getfield 25, 3) := by decide +kernel
theorem dX1_become_23 : decode cX1_become 23 = .ok (.aload_n 1, 1) := by decide +kernel
theorem dX1_become_24 : decode cX1_become 24 = .ok (.getfield 25, 3) := by decide +kernel
theorem dX1_become_27 : decode cX1_become 27 = .ok (.invokevirtual 43, 3) := by decide +kernel
theorem dX1_become_30 : decode cX1_become 30 = .ok (.iconst 0, 1) := by decide +kernel
theorem dX1_become_31 : decode cX1_become 31 = .ok (.istore_n 2, 1) := by decide +kernel
theorem dX1_become_32 : decode cX1_become 32 = .ok (.iload_n 2, 1) := by decide +kernel
theorem dX1_become_33 : decode cX1_become 33 = .ok (.bipush 8, 2) := by decide +kernel
theorem dX1_become_35 : decode cX1_become 35 = .ok (.if_icmp .ge 24, 3) := by decide +kernel
theorem dX1_become_38 : decode cX1_become 38 = .ok (.aload_n 0, 1) := by decide +kernel
theorem dX1_become_39 : decode cX1_become 39 = .ok (.getfield 29, 3) := by decide +kernel
theorem dX1_become_42 : decode cX1_become 42 = .ok (.iload_n 2, 1) := by decide +kernel
theorem dX1_become_43 : decode cX1_become 43 = .ok (.aaload, 1) := by decide +kernel
theorem dX1_become_44 : decode cX1_become 44 = .ok (.aload_n 1, 1) := by decide +kernel
theorem dX1_become_45 : decode cX1_become 45 = .ok (.getfield 29, 3) := by decide +kernel
theorem dX1_become_48 : decode cX1_become 48 = .ok (.iload_n 2, 1) := by decide +kernel
theorem dX1_become_49 : decode cX1_become 49 = .ok (.aaload, 1) := by decide +kernel
theorem dX1_become_50 : decode cX1_become 50 = .ok (.invokevirtual 43, 3) := by decide +kernel
theorem dX1_become_53 : decode cX1_become 53 = .ok (.iinc 2 1, 3) := by decide +kernel
theorem dX1_become_56 : decode cX1_become 56 = .ok (.goto (-24), 3) := by decide +kernel
theorem dX1_become_59 : decode cX1_become 59 = .ok (.aload_n 0, 1) := by decide +kernel
theorem dX1_become_60 : decode cX1_become 60 = .ok (.aload_n 1, 1) := by decide +kernel
theorem dX1_become_61 : decode cX1_become 61 = .ok (.getfield 33, 3) := by decide +kernel
theorem dX1_become_64 : decode cX1_become 64 = .ok (.putfield 33, 3) := by decide +kernel
theorem dX1_become_67 : decode cX1_become 67 = .ok (.aload_n 0, 1) := by decide +kernel
theorem dX1_become_68 : decode cX1_become 68 = .ok (.aload_n 1, 1) := by decide +kernel
theorem dX1_become_69 : decode cX1_become 69 = .ok (.getfield 36, 3) := by decide +kernel
theorem dX1_become_72 : decode cX1_become 72 = .ok (.putfield 36, 3) := by decide +kernel
theorem dX1_become_75 : decode cX1_become 75 = .ok (.return_, 1) := by decide +kernel
set_option maxRecDepth 20000 in
theorem ggX1_remember_X0_become : GoodIn wsX1_remember wsX0_become := goodIn_r _ [13, 14, 15, 16, 17, 18, 19, 12, 20, 21, 22, 23, 24, 25, 26, 27, 28, 29, 36, 37, 38, 39, 40, 41, 42, 43] (by decide +kernel) (by decide +kernel)
set_option maxRecDepth 20000 in
theorem gX1_remember_X0_become : GoodIn wsX1_remember (wsV RX1 43 RX0 yX0_become wsX0_become) := goodIn_app (goodIn_of _ (by decide +kernel)) ggX1_remember_X0_become
theorem dX1_remember_0 : decode cX1_remember 0 = .ok (.aload_n 0, 1) := by decide +kernel
theorem dX1_remember_1 : decode cX1_remember 1 = .ok (.getfield 29, 3) := by decide +kernel
theorem dX1_remember_4 : decode cX1_remember 4 = .ok (.aload_n 0, 1) := by decide +kernel
theorem dX1_remember_5 : decode cX1_remember 5 = .ok (.getfield 36, 3) := by decide +kernel
theorem dX1_remember_8 : decode cX1_remember 8 = .ok (.aaload, 1) := by decide +kernel
theorem dX1_remember_9 : decode cX1_remember 9 = .ok (.aload_n 0, 1) := by decide +kernel
theorem dX1_remember_10 : decode cX1_remember 10 = .ok (.getfield 25, 3) := by decide +kernel
theorem dX1_remember_13 : decode cX1_remember 13 = .ok (.invokevirtual 43, 3) := by decide +kernel
theorem dX1_remember_16 : decode cX1_remember 16 = .ok (.aload_n 0, 1) := by decide +kernel
theorem dX1_remember_17 : decode cX1_remember 17 = .ok (.aload_n 0, 1) := by decide +kernel
theorem dX1_remember_18 : decode cX1_remember 18 = .ok (.getfield 36, 3) := by decide +kernel
theorem dX1_remember_21 : decode cX1_remember 21 = .ok (.iconst 1, 1) := by decide +kernel
theorem dX1_remember_22 : decode cX1_remember 22 = .ok (.iadd, 1) := by decide +kernel
theorem dX1_remember_23 : decode cX1_remember 23 = .ok (.bipush 8, 2) := by decide +kernel
theorem dX1_remember_25 : decode cX1_remember 25 = .ok (.irem, 1) := by decide +kernel
theorem dX1_remember_26 : decode cX1_remember 26 = .ok (.putfield 36, 3) := by decide +kernel
theorem dX1_remember_29 : decode cX1_remember 29 = .ok (.aload_n 0, 1) := by decide +kernel
theorem dX1_remember_30 : decode cX1_remember 30 = .ok (.bipush 8, 2) := by decide +kernel
theorem dX1_remember_32 : decode cX1_remember 32 = .ok (.aload_n 0, 1) := by decide +kernel
theorem dX1_remember_33 : decode cX1_remember 33 = .ok (.getfield 33, 3) := by decide +kernel
theorem dX1_remember_36 : decode cX1_remember 36 = .ok (.iconst 1, 1) := by decide +kernel
theorem dX1_remember_37 : decode cX1_remember 37 = .ok (.iadd, 1) := by decide +kernel
theorem dX1_remember_38 : decode cX1_remember 38 = .ok (.invokestatic 46, 3) := by decide +kernel
theorem dX1_remember_41 : decode cX1_remember 41 = .ok (.putfield 33, 3) := by decide +kernel
theorem dX1_remember_44 : decode cX1_remember 44 = .ok (.return_, 1) := by decide +kernel
set_option maxRecDepth 20000 in
theorem ggX1_goBack_X0_become : GoodIn wsX1_goBack wsX0_become := goodIn_r _ [9, 10, 11, 12, 13, 14, 15, 8, 16, 17, 18, 19, 20, 21, 22, 23, 24, 25, 32, 33, 34, 35, 36, 37, 38, 39] (by decide +kernel) (by decide +kernel)
set_option maxRecDepth 20000 in
theorem gX1_goBack_X0_become : GoodIn wsX1_goBack (wsV RX1 43 RX0 yX0_become wsX0_become) := goodIn_app (goodIn_of _ (by decide +kernel)) ggX1_goBack_X0_become
theorem dX1_goBack_0 : decode cX1_goBack 0 = .ok (.aload_n 0, 1) := by decide +kernel
theorem dX1_goBack_1 : decode cX1_goBack 1 = .ok (.getfield 33, 3) := by decide +kernel
theorem dX1_goBack_4 : decode cX1_goBack 4 = .ok (.ifCond .ne 4, 3) := by decide +kernel
theorem dX1_goBack_7 : decode cX1_goBack 7 = .ok (.return_, 1) := by decide +kernel
theorem dX1_goBack_8 : decode cX1_goBack 8 = .ok (.aload_n 0, 1) := by decide +kernel
theorem dX1_goBack_9 : decode cX1_goBack 9 = .ok (.aload_n 0, 1) := by decide +kernel
theorem dX1_goBack_10 : decode cX1_goBack 10 = .ok (.getfield 36, 3) := by decide +kernel
theorem dX1_goBack_13 : decode cX1_goBack 13 = .ok (.bipush 8, 2) := by decide +kernel
theorem dX1_goBack_15 : decode cX1_goBack 15 = .ok (.iadd, 1) := by decide +kernel
theorem dX1_goBack_16 : decode cX1_goBack 16 = .ok (.iconst 1, 1) := by decide +kernel
theorem dX1_goBack_17 : decode cX1_goBack 17 = .ok (.isub, 1) := by decide +kernel
theorem dX1_goBack_18 : decode cX1_goBack 18 = .ok (.bipush 8, 2) := by decide +kernel
theorem dX1_goBack_20 : decode cX1_goBack 20 = .ok (.irem, 1) := by decide +kernel
theorem dX1_goBack_21 : decode cX1_goBack 21 = .ok (.putfield 36, 3) := by decide +kernel
theorem dX1_goBack_24 : decode cX1_goBack 24 = .ok (.aload_n 0, 1) := by decide +kernel
theorem dX1_goBack_25 : decode cX1_goBack 25 = .ok (.getfield 25, 3) := by decide +kernel
theorem dX1_goBack_28 : decode cX1_goBack 28 = .ok (.aload_n 0, 1) := by decide +kernel
theorem dX1_goBack_29 : decode cX1_goBack 29 = .ok (.getfield 29, 3) := by decide +kernel
theorem dX1_goBack_32 : decode cX1_goBack 32 = .ok (.aload_n 0, 1) := by decide +kernel
theorem dX1_goBack_33 : decode cX1_goBack 33 = .ok (.getfield 36, 3) := by decide +kernel
theorem dX1_goBack_36 : decode cX1_goBack 36 = .ok (.aaload, 1) := by decide +kernel
theorem dX1_goBack_37 : decode cX1_goBack 37 = .ok (.invokevirtual 43, 3) := by decide +kernel
theorem dX1_goBack_40 : decode cX1_goBack 40 = .ok (.aload_n 0, 1) := by decide +kernel
theorem dX1_goBack_41 : decode cX1_goBack 41 = .ok (.dup, 1) := by decide +kernel
theorem dX1_goBack_42 : decode cX1_goBack 42 = .ok (.getfield 33, 3) := by decide +kernel
theorem dX1_goBack_45 : decode cX1_goBack 45 = .ok (.iconst 1, 1) := by decide +kernel
theorem dX1_goBack_46 : decode cX1_goBack 46 = .ok (.isub, 1) := by decide +kernel
theorem dX1_goBack_47 : decode cX1_goBack 47 = .ok (.putfield 33, 3) := by decide +kernel
theorem dX1_goBack_50 : decode cX1_goBack 50 = .ok (.return_, 1) := by decide +kernel
set_option maxRecDepth 20000 in
theorem ggX1_takeOver_X5_become : GoodIn wsX1_takeOver wsX5_become := goodIn_r _ [14, 15, 16, 17, 18, 19, 20, 53, 54] (by decide +kernel) (by decide +kernel)
set_option maxRecDepth 20000 in
theorem gX1_takeOver_X5_become : GoodIn wsX1_takeOver (wsV RX1 39 RX5 yX5_become wsX5_become) := goodIn_app (goodIn_of _ (by decide +kernel)) ggX1_takeOver_X5_become
set_option maxRecDepth 20000 in
theorem ggX1_takeOver_X0_becomeCoatsOf : GoodIn wsX1_takeOver wsX0_becomeCoatsOf := goodIn_r _ [25, 26, 27, 28, 18, 19, 20, 29, 30, 31, 45, 46, 47, 48, 49, 50, 51, 52] (by decide +kernel) (by decide +kernel)
set_option maxRecDepth 20000 in
theorem gX1_takeOver_X0_becomeCoatsOf : GoodIn wsX1_takeOver (wsV RX1 57 RX0 yX0_becomeCoatsOf wsX0_becomeCoatsOf) := goodIn_app (goodIn_of _ (by decide +kernel)) ggX1_takeOver_X0_becomeCoatsOf
theorem dX1_takeOver_0 : decode cX1_takeOver 0 = .ok (.aload_n 0, 1) := by decide +kernel
theorem dX1_takeOver_1 : decode cX1_takeOver 1 = .ok (.aload_n 1, 1) := by decide +kernel
theorem dX1_takeOver_2 : decode cX1_takeOver 2 = .ok (.getfield 52, 3) := by decide +kernel
theorem dX1_takeOver_5 : decode cX1_takeOver 5 = .ok (.putfield 9, 3) := by decide +kernel
theorem dX1_takeOver_8 : decode cX1_takeOver 8 = .ok (.aload_n 0, 1) := by decide +kernel
theorem dX1_takeOver_9 : decode cX1_takeOver 9 = .ok (.getfield 18, 3) := by decide +kernel
theorem dX1_takeOver_12 : decode cX1_takeOver 12 = .ok (.aload_n 1, 1) := by decide +kernel
theorem dX1_takeOver_13 : decode cX1_takeOver 13 = .ok (.getfield 55, 3) := by decide +kernel
theorem dX1_takeOver_16 : decode cX1_takeOver 16 = .ok (.invokevirtual 39, 3) := by decide +kernel
theorem dX1_takeOver_19 : decode cX1_takeOver 19 = .ok (.aload_n 0, 1) := by decide +kernel
theorem dX1_takeOver_20 : decode cX1_takeOver 20 = .ok (.getfield 25, 3) := by decide +kernel
theorem dX1_takeOver_23 : decode cX1_takeOver 23 = .ok (.aload_n 1, 1) := by decide +kernel
theorem dX1_takeOver_24 : decode cX1_takeOver 24 = .ok (.getfield 56, 3) := by decide +kernel
theorem dX1_takeOver_27 : decode cX1_takeOver 27 = .ok (.invokevirtual 57, 3) := by decide +kernel
theorem dX1_takeOver_30 : decode cX1_takeOver 30 = .ok (.aload_n 0, 1) := by decide +kernel
theorem dX1_takeOver_31 : decode cX1_takeOver 31 = .ok (.getfield 25, 3) := by decide +kernel
theorem dX1_takeOver_34 : decode cX1_takeOver 34 = .ok (.iconst 0, 1) := by decide +kernel
theorem dX1_takeOver_35 : decode cX1_takeOver 35 = .ok (.putfield 60, 3) := by decide +kernel
theorem dX1_takeOver_38 : decode cX1_takeOver 38 = .ok (.aload_n 0, 1) := by decide +kernel
theorem dX1_takeOver_39 : decode cX1_takeOver 39 = .ok (.getfield 25, 3) := by decide +kernel
theorem dX1_takeOver_42 : decode cX1_takeOver 42 = .ok (.iconst 0, 1) := by decide +kernel
theorem dX1_takeOver_43 : decode cX1_takeOver 43 = .ok (.putfield 63, 3) := by decide +kernel
theorem dX1_takeOver_46 : decode cX1_takeOver 46 = .ok (.aload_n 0, 1) := by decide +kernel
theorem dX1_takeOver_47 : decode cX1_takeOver 47 = .ok (.iconst 0, 1) := by decide +kernel
theorem dX1_takeOver_48 : decode cX1_takeOver 48 = .ok (.putfield 33, 3) := by decide +kernel
theorem dX1_takeOver_51 : decode cX1_takeOver 51 = .ok (.return_, 1) := by decide +kernel
theorem dX2_init_0 : decode cX2_init 0 = .ok (.aload_n 0, 1) := by decide +kernel
theorem dX2_init_1 : decode cX2_init 1 = .ok (.invokespecial 3, 3) := by decide +kernel
theorem dX2_init_4 : decode cX2_init 4 = .ok (.aload_n 0, 1) := by decide +kernel
theorem dX2_init_5 : decode cX2_init 5 = .ok (.bipush 10, 2) := by decide +kernel
theorem dX2_init_7 : decode cX2_init 7 = .ok (.newarray .int, 2) := by decide +kernel
theorem dX2_init_9 : decode cX2_init 9 = .ok (.putfield 9, 3) := by decide +kernel
theorem dX2_init_12 : decode cX2_init 12 = .ok (.aload_n 0, 1) := by decide +kernel
theorem dX2_init_13 : decode cX2_init 13 = .ok (.bipush 10, 2) := by decide +kernel
theorem dX2_init_15 : decode cX2_init 15 = .ok (.newarray .int, 2) := by decide +kernel
theorem dX2_init_17 : decode cX2_init 17 = .ok (.putfield 15, 3) := by decide +kernel
theorem dX2_init_20 : decode cX2_init 20 = .ok (.aload_n 0, 1) := by decide +kernel
theorem dX2_init_21 : decode cX2_init 21 = .ok (.iconst 0, 1) := by decide +kernel
theorem dX2_init_22 : decode cX2_init 22 = .ok (.putfield 18, 3) := by decide +kernel
theorem dX2_init_25 : decode cX2_init 25 = .ok (.aload_n 0, 1) := by decide +kernel
theorem dX2_init_26 : decode cX2_init 26 = .ok (.iconst 0, 1) := by decide +kernel
theorem dX2_init_27 : decode cX2_init 27 = .ok (.putfield 22, 3) := by decide +kernel
theorem dX2_init_30 : decode cX2_init 30 = .ok (.aload_n 0, 1) := by decide +kernel
theorem dX2_init_31 : decode cX2_init 31 = .ok (.iconst 0, 1) := by decide +kernel
theorem dX2_init_32 : decode cX2_init 32 = .ok (.putfield 25, 3) := by decide +kernel
theorem dX2_init_35 : decode cX2_init 35 = .ok (.return_, 1) := by decide +kernel
theorem dX2_begin_0 : decode cX2_begin 0 = .ok (.aload_n 0, 1) := by decide +kernel
theorem dX2_begin_1 : decode cX2_begin 1 = .ok (.iload_n 1, 1) := by decide +kernel
theorem dX2_begin_2 : decode cX2_begin 2 = .ok (.putfield 18, 3) := by decide +kernel
theorem dX2_begin_5 : decode cX2_begin 5 = .ok (.aload_n 0, 1) := by decide +kernel
theorem dX2_begin_6 : decode cX2_begin 6 = .ok (.ldc 28, 2) := by decide +kernel
theorem dX2_begin_8 : decode cX2_begin 8 = .ok (.putfield 22, 3) := by decide +kernel
theorem dX2_begin_11 : decode cX2_begin 11 = .ok (.aload_n 0, 1) := by decide +kernel
theorem dX2_begin_12 : decode cX2_begin 12 = .ok (.ldc 28, 2) := by decide +kernel
theorem dX2_begin_14 : decode cX2_begin 14 = .ok (.putfield 25, 3) := by decide +kernel
theorem dX2_begin_17 : decode cX2_begin 17 = .ok (.iconst 0, 1) := by decide +kernel
theorem dX2_begin_18 : decode cX2_begin 18 = .ok (.istore_n 3, 1) := by decide +kernel
theorem dX2_begin_19 : decode cX2_begin 19 = .ok (.iload_n 3, 1) := by decide +kernel
theorem dX2_begin_20 : decode cX2_begin 20 = .ok (.bipush 10, 2) := by decide +kernel
theorem dX2_begin_22 : decode cX2_begin 22 = .ok (.if_icmp .ge 27, 3) := by decide +kernel
theorem dX2_begin_25 : decode cX2_begin 25 = .ok (.aload_n 0, 1) := by decide +kernel
theorem dX2_begin_26 : decode cX2_begin 26 = .ok (.getfield 9, 3) := by decide +kernel
theorem dX2_begin_29 : decode cX2_begin 29 = .ok (.iload_n 3, 1) := by decide +kernel
theorem dX2_begin_30 : decode cX2_begin 30 = .ok (.iload_n 3, 1) := by decide +kernel
theorem dX2_begin_31 : decode cX2_begin 31 = .ok (.iload_n 1, 1) := by decide +kernel
theorem dX2_begin_32 : decode cX2_begin 32 = .ok (.iconst 1, 1) := by decide +kernel
theorem dX2_begin_33 : decode cX2_begin 33 = .ok (.isub, 1) := by decide +kernel
theorem dX2_begin_34 : decode cX2_begin 34 = .ok (.if_icmp .ne 7, 3) := by decide +kernel
theorem dX2_begin_37 : decode cX2_begin 37 = .ok (.iload_n 2, 1) := by decide +kernel
theorem dX2_begin_38 : decode cX2_begin 38 = .ok (.goto 4, 3) := by decide +kernel
theorem dX2_begin_41 : decode cX2_begin 41 = .ok (.iconst 0, 1) := by decide +kernel
theorem dX2_begin_42 : decode cX2_begin 42 = .ok (.iastore, 1) := by decide +kernel
theorem dX2_begin_43 : decode cX2_begin 43 = .ok (.iinc 3 1, 3) := by decide +kernel
theorem dX2_begin_46 : decode cX2_begin 46 = .ok (.goto (-27), 3) := by decide +kernel
theorem dX2_begin_49 : decode cX2_begin 49 = .ok (.return_, 1) := by decide +kernel
theorem dX2_keepIfBetter_0 : decode cX2_keepIfBetter 0 = .ok (.iload_n 1, 1) := by decide +kernel
theorem dX2_keepIfBetter_1 : decode cX2_keepIfBetter 1 = .ok (.aload_n 0, 1) := by decide +kernel
theorem dX2_keepIfBetter_2 : decode cX2_keepIfBetter 2 = .ok (.getfield 22, 3) := by decide +kernel
theorem dX2_keepIfBetter_5 : decode cX2_keepIfBetter 5 = .ok (.if_icmp .gt 19, 3) := by decide +kernel
theorem dX2_keepIfBetter_8 : decode cX2_keepIfBetter 8 = .ok (.iload_n 1, 1) := by decide +kernel
theorem dX2_keepIfBetter_9 : decode cX2_keepIfBetter 9 = .ok (.aload_n 0, 1) := by decide +kernel
theorem dX2_keepIfBetter_10 : decode cX2_keepIfBetter 10 = .ok (.getfield 22, 3) := by decide +kernel
theorem dX2_keepIfBetter_13 : decode cX2_keepIfBetter 13 = .ok (.if_icmp .ne 12, 3) := by decide +kernel
theorem dX2_keepIfBetter_16 : decode cX2_keepIfBetter 16 = .ok (.iload_n 2, 1) := by decide +kernel
theorem dX2_keepIfBetter_17 : decode cX2_keepIfBetter 17 = .ok (.aload_n 0, 1) := by decide +kernel
theorem dX2_keepIfBetter_18 : decode cX2_keepIfBetter 18 = .ok (.getfield 25, 3) := by decide +kernel
theorem dX2_keepIfBetter_21 : decode cX2_keepIfBetter 21 = .ok (.if_icmp .lt 4, 3) := by decide +kernel
theorem dX2_keepIfBetter_24 : decode cX2_keepIfBetter 24 = .ok (.return_, 1) := by decide +kernel
theorem dX2_keepIfBetter_25 : decode cX2_keepIfBetter 25 = .ok (.aload_n 0, 1) := by decide +kernel
theorem dX2_keepIfBetter_26 : decode cX2_keepIfBetter 26 = .ok (.iload_n 1, 1) := by decide +kernel
theorem dX2_keepIfBetter_27 : decode cX2_keepIfBetter 27 = .ok (.putfield 22, 3) := by decide +kernel
theorem dX2_keepIfBetter_30 : decode cX2_keepIfBetter 30 = .ok (.aload_n 0, 1) := by decide +kernel
theorem dX2_keepIfBetter_31 : decode cX2_keepIfBetter 31 = .ok (.iload_n 2, 1) := by decide +kernel
theorem dX2_keepIfBetter_32 : decode cX2_keepIfBetter 32 = .ok (.putfield 25, 3) := by decide +kernel
theorem dX2_keepIfBetter_35 : decode cX2_keepIfBetter 35 = .ok (.aload_n 0, 1) := by decide +kernel
theorem dX2_keepIfBetter_36 : decode cX2_keepIfBetter 36 = .ok (.getfield 9, 3) := by decide +kernel
theorem dX2_keepIfBetter_39 : decode cX2_keepIfBetter 39 = .ok (.iconst 0, 1) := by decide +kernel
theorem dX2_keepIfBetter_40 : decode cX2_keepIfBetter 40 = .ok (.aload_n 0, 1) := by decide +kernel
theorem dX2_keepIfBetter_41 : decode cX2_keepIfBetter 41 = .ok (.getfield 15, 3) := by decide +kernel
theorem dX2_keepIfBetter_44 : decode cX2_keepIfBetter 44 = .ok (.iconst 0, 1) := by decide +kernel
theorem dX2_keepIfBetter_45 : decode cX2_keepIfBetter 45 = .ok (.bipush 10, 2) := by decide +kernel
theorem dX2_keepIfBetter_47 : decode cX2_keepIfBetter 47 = .ok (.invokestatic 29, 3) := by decide +kernel
theorem dX2_keepIfBetter_50 : decode cX2_keepIfBetter 50 = .ok (.return_, 1) := by decide +kernel
theorem dX2_advance_0 : decode cX2_advance 0 = .ok (.aload_n 0, 1) := by decide +kernel
theorem dX2_advance_1 : decode cX2_advance 1 = .ok (.getfield 18, 3) := by decide +kernel
theorem dX2_advance_4 : decode cX2_advance 4 = .ok (.iconst 1, 1) := by decide +kernel
theorem dX2_advance_5 : decode cX2_advance 5 = .ok (.isub, 1) := by decide +kernel
theorem dX2_advance_6 : decode cX2_advance 6 = .ok (.istore_n 1, 1) := by decide +kernel
theorem dX2_advance_7 : decode cX2_advance 7 = .ok (.iload_n 1, 1) := by decide +kernel
theorem dX2_advance_8 : decode cX2_advance 8 = .ok (.ifCond .le 18, 3) := by decide +kernel
theorem dX2_advance_11 : decode cX2_advance 11 = .ok (.aload_n 0, 1) := by decide +kernel
theorem dX2_advance_12 : decode cX2_advance 12 = .ok (.getfield 9, 3) := by decide +kernel
theorem dX2_advance_15 : decode cX2_advance 15 = .ok (.iload_n 1, 1) := by decide +kernel
theorem dX2_advance_16 : decode cX2_advance 16 = .ok (.iaload, 1) := by decide +kernel
theorem dX2_advance_17 : decode cX2_advance 17 = .ok (.ifCond .ne 9, 3) := by decide +kernel
theorem dX2_advance_20 : decode cX2_advance 20 = .ok (.iinc 1 (-1), 3) := by decide +kernel
theorem dX2_advance_23 : decode cX2_advance 23 = .ok (.goto (-16), 3) := by decide +kernel
theorem dX2_advance_26 : decode cX2_advance 26 = .ok (.iload_n 1, 1) := by decide +kernel
theorem dX2_advance_27 : decode cX2_advance 27 = .ok (.ifCond .gt 5, 3) := by decide +kernel
theorem dX2_advance_30 : decode cX2_advance 30 = .ok (.iconst 0, 1) := by decide +kernel
theorem dX2_advance_31 : decode cX2_advance 31 = .ok (.ireturn, 1) := by decide +kernel
theorem dX2_advance_32 : decode cX2_advance 32 = .ok (.aload_n 0, 1) := by decide +kernel
theorem dX2_advance_33 : decode cX2_advance 33 = .ok (.getfield 9, 3) := by decide +kernel
theorem dX2_advance_36 : decode cX2_advance 36 = .ok (.iload_n 1, 1) := by decide +kernel
theorem dX2_advance_37 : decode cX2_advance 37 = .ok (.iaload, 1) := by decide +kernel
theorem dX2_advance_38 : decode cX2_advance 38 = .ok (.istore_n 2, 1) := by decide +kernel
theorem dX2_advance_39 : decode cX2_advance 39 = .ok (.aload_n 0, 1) := by decide +kernel
theorem dX2_advance_40 : decode cX2_advance 40 = .ok (.getfield 9, 3) := by decide +kernel
theorem dX2_advance_43 : decode cX2_advance 43 = .ok (.iload_n 1, 1) := by decide +kernel
theorem dX2_advance_44 : decode cX2_advance 44 = .ok (.iconst 0, 1) := by decide +kernel
theorem dX2_advance_45 : decode cX2_advance 45 = .ok (.iastore, 1) := by decide +kernel
theorem dX2_advance_46 : decode cX2_advance 46 = .ok (.aload_n 0, 1) := by decide +kernel
theorem dX2_advance_47 : decode cX2_advance 47 = .ok (.getfield 9, 3) := by decide +kernel
theorem dX2_advance_50 : decode cX2_advance 50 = .ok (.iload_n 1, 1) := by decide +kernel
theorem dX2_advance_51 : decode cX2_advance 51 = .ok (.iconst 1, 1) := by decide +kernel
theorem dX2_advance_52 : decode cX2_advance 52 = .ok (.isub, 1) := by decide +kernel
theorem dX2_advance_53 : decode cX2_advance 53 = .ok (.dup2, 1) := by decide +kernel
theorem dX2_advance_54 : decode cX2_advance 54 = .ok (.iaload, 1) := by decide +kernel
theorem dX2_advance_55 : decode cX2_advance 55 = .ok (.iconst 1, 1) := by decide +kernel
theorem dX2_advance_56 : decode cX2_advance 56 = .ok (.iadd, 1) := by decide +kernel
theorem dX2_advance_57 : decode cX2_advance 57 = .ok (.iastore, 1) := by decide +kernel
theorem dX2_advance_58 : decode cX2_advance 58 = .ok (.aload_n 0, 1) := by decide +kernel
theorem dX2_advance_59 : decode cX2_advance 59 = .ok (.getfield 9, 3) := by decide +kernel
theorem dX2_advance_62 : decode cX2_advance 62 = .ok (.aload_n 0, 1) := by decide +kernel
theorem dX2_advance_63 : decode cX2_advance 63 = .ok (.getfield 18, 3) := by decide +kernel
theorem dX2_advance_66 : decode cX2_advance 66 = .ok (.iconst 1, 1) := by decide +kernel
theorem dX2_advance_67 : decode cX2_advance 67 = .ok (.isub, 1) := by decide +kernel
theorem dX2_advance_68 : decode cX2_advance 68 = .ok (.iload_n 2, 1) := by decide +kernel
theorem dX2_advance_69 : decode cX2_advance 69 = .ok (.iconst 1, 1) := by decide +kernel
theorem dX2_advance_70 : decode cX2_advance 70 = .ok (.isub, 1) := by decide +kernel
theorem dX2_advance_71 : decode cX2_advance 71 = .ok (.iastore, 1) := by decide +kernel
theorem dX2_advance_72 : decode cX2_advance 72 = .ok (.iconst 1, 1) := by decide +kernel
theorem dX2_advance_73 : decode cX2_advance 73 = .ok (.ireturn, 1) := by decide +kernel
theorem dX3_init_0 : decode cX3_init 0 = .ok (.aload_n 0, 1) := by decide +kernel
theorem dX3_init_1 : decode cX3_init 1 = .ok (.invokespecial 3, 3) := by decide +kernel
theorem dX3_init_4 : decode cX3_init 4 = .ok (.aload_n 0, 1) := by decide +kernel
theorem dX3_init_5 : decode cX3_init 5 = .ok (.bipush 24, 2) := by decide +kernel
theorem dX3_init_7 : decode cX3_init 7 = .ok (.newarray .long, 2) := by decide +kernel
theorem dX3_init_9 : decode cX3_init 9 = .ok (.putfield 9, 3) := by decide +kernel
theorem dX3_init_12 : decode cX3_init 12 = .ok (.aload_n 0, 1) := by decide +kernel
theorem dX3_init_13 : decode cX3_init 13 = .ok (.iconst 0, 1) := by decide +kernel
theorem dX3_init_14 : decode cX3_init 14 = .ok (.putfield 15, 3) := by decide +kernel
theorem dX3_init_17 : decode cX3_init 17 = .ok (.aload_n 0, 1) := by decide +kernel
theorem dX3_init_18 : decode cX3_init 18 = .ok (.iconst 0, 1) := by decide +kernel
theorem dX3_init_19 : decode cX3_init 19 = .ok (.putfield 19, 3) := by decide +kernel
theorem dX3_init_22 : decode cX3_init 22 = .ok (.aload_n 0, 1) := by decide +kernel
theorem dX3_init_23 : decode cX3_init 23 = .ok (.iconst 0, 1) := by decide +kernel
theorem dX3_init_24 : decode cX3_init 24 = .ok (.putfield 23, 3) := by decide +kernel
theorem dX3_init_27 : decode cX3_init 27 = .ok (.return_, 1) := by decide +kernel
theorem dX3_begin_0 : decode cX3_begin 0 = .ok (.aload_n 0, 1) := by decide +kernel
theorem dX3_begin_1 : decode cX3_begin 1 = .ok (.iconst 1, 1) := by decide +kernel
theorem dX3_begin_2 : decode cX3_begin 2 = .ok (.putfield 15, 3) := by decide +kernel
theorem dX3_begin_5 : decode cX3_begin 5 = .ok (.aload_n 0, 1) := by decide +kernel
theorem dX3_begin_6 : decode cX3_begin 6 = .ok (.iload_n 1, 1) := by decide +kernel
theorem dX3_begin_7 : decode cX3_begin 7 = .ok (.putfield 19, 3) := by decide +kernel
theorem dX3_begin_10 : decode cX3_begin 10 = .ok (.aload_n 0, 1) := by decide +kernel
theorem dX3_begin_11 : decode cX3_begin 11 = .ok (.iload_n 2, 1) := by decide +kernel
theorem dX3_begin_12 : decode cX3_begin 12 = .ok (.putfield 23, 3) := by decide +kernel
theorem dX3_begin_15 : decode cX3_begin 15 = .ok (.iconst 0, 1) := by decide +kernel
theorem dX3_begin_16 : decode cX3_begin 16 = .ok (.istore_n 3, 1) := by decide +kernel
theorem dX3_begin_17 : decode cX3_begin 17 = .ok (.iload_n 3, 1) := by decide +kernel
theorem dX3_begin_18 : decode cX3_begin 18 = .ok (.bipush 24, 2) := by decide +kernel
theorem dX3_begin_20 : decode cX3_begin 20 = .ok (.if_icmp .ge 16, 3) := by decide +kernel
theorem dX3_begin_23 : decode cX3_begin 23 = .ok (.aload_n 0, 1) := by decide +kernel
theorem dX3_begin_24 : decode cX3_begin 24 = .ok (.getfield 9, 3) := by decide +kernel
theorem dX3_begin_27 : decode cX3_begin 27 = .ok (.iload_n 3, 1) := by decide +kernel
theorem dX3_begin_28 : decode cX3_begin 28 = .ok (.lconst 0, 1) := by decide +kernel
theorem dX3_begin_29 : decode cX3_begin 29 = .ok (.lastore, 1) := by decide +kernel
theorem dX3_begin_30 : decode cX3_begin 30 = .ok (.iinc 3 1, 3) := by decide +kernel
theorem dX3_begin_33 : decode cX3_begin 33 = .ok (.goto (-16), 3) := by decide +kernel
theorem dX3_begin_36 : decode cX3_begin 36 = .ok (.return_, 1) := by decide +kernel
set_option maxRecDepth 20000 in
theorem ggX3_refuse_X3_spans : GoodIn wsX3_refuse wsX3_spans := goodIn_r _ [7, 8, 9, 10, 11, 12] (by decide +kernel) (by decide +kernel)
set_option maxRecDepth 20000 in
theorem gX3_refuse_X3_spans : GoodIn wsX3_refuse (wsV RX3 26 RX3 yX3_spans wsX3_spans) := goodIn_app (goodIn_of _ (by decide +kernel)) ggX3_refuse_X3_spans
theorem dX3_refuse_0 : decode cX3_refuse 0 = .ok (.aload_n 0, 1) := by decide +kernel
theorem dX3_refuse_1 : decode cX3_refuse 1 = .ok (.getfield 15, 3) := by decide +kernel
theorem dX3_refuse_4 : decode cX3_refuse 4 = .ok (.ifCond .ne 6, 3) := by decide +kernel
theorem dX3_refuse_7 : decode cX3_refuse 7 = .ok (.bipush (-11), 2) := by decide +kernel
theorem dX3_refuse_9 : decode cX3_refuse 9 = .ok (.ireturn, 1) := by decide +kernel
theorem dX3_refuse_10 : decode cX3_refuse 10 = .ok (.iload_n 1, 1) := by decide +kernel
theorem dX3_refuse_11 : decode cX3_refuse 11 = .ok (.aload_n 0, 1) := by decide +kernel
theorem dX3_refuse_12 : decode cX3_refuse 12 = .ok (.getfield 19, 3) := by decide +kernel
theorem dX3_refuse_15 : decode cX3_refuse 15 = .ok (.if_icmp .eq 6, 3) := by decide +kernel
theorem dX3_refuse_18 : decode cX3_refuse 18 = .ok (.bipush (-12), 2) := by decide +kernel
theorem dX3_refuse_20 : decode cX3_refuse 20 = .ok (.ireturn, 1) := by decide +kernel
theorem dX3_refuse_21 : decode cX3_refuse 21 = .ok (.aload_n 0, 1) := by decide +kernel
theorem dX3_refuse_22 : decode cX3_refuse 22 = .ok (.iload_n 2, 1) := by decide +kernel
theorem dX3_refuse_23 : decode cX3_refuse 23 = .ok (.iload_n 3, 1) := by decide +kernel
theorem dX3_refuse_24 : decode cX3_refuse 24 = .ok (.invokevirtual 26, 3) := by decide +kernel
theorem dX3_refuse_27 : decode cX3_refuse 27 = .ok (.ifCond .eq 7, 3) := by decide +kernel
theorem dX3_refuse_30 : decode cX3_refuse 30 = .ok (.iconst 0, 1) := by decide +kernel
theorem dX3_refuse_31 : decode cX3_refuse 31 = .ok (.goto 5, 3) := by decide +kernel
theorem dX3_refuse_34 : decode cX3_refuse 34 = .ok (.bipush (-13), 2) := by decide +kernel
theorem dX3_refuse_36 : decode cX3_refuse 36 = .ok (.ireturn, 1) := by decide +kernel
theorem dX3_spans_0 : decode cX3_spans 0 = .ok (.iload_n 1, 1) := by decide +kernel
theorem dX3_spans_1 : decode cX3_spans 1 = .ok (.ifCond .lt 21, 3) := by decide +kernel
theorem dX3_spans_4 : decode cX3_spans 4 = .ok (.iload_n 2, 1) := by decide +kernel
theorem dX3_spans_5 : decode cX3_spans 5 = .ok (.ifCond .lt 17, 3) := by decide +kernel
theorem dX3_spans_8 : decode cX3_spans 8 = .ok (.iload_n 1, 1) := by decide +kernel
theorem dX3_spans_9 : decode cX3_spans 9 = .ok (.aload_n 0, 1) := by decide +kernel
theorem dX3_spans_10 : decode cX3_spans 10 = .ok (.getfield 23, 3) := by decide +kernel
theorem dX3_spans_13 : decode cX3_spans 13 = .ok (.iload_n 2, 1) := by decide +kernel
theorem dX3_spans_14 : decode cX3_spans 14 = .ok (.isub, 1) := by decide +kernel
theorem dX3_spans_15 : decode cX3_spans 15 = .ok (.if_icmp .gt 7, 3) := by decide +kernel
theorem dX3_spans_18 : decode cX3_spans 18 = .ok (.iconst 1, 1) := by decide +kernel
theorem dX3_spans_19 : decode cX3_spans 19 = .ok (.goto 4, 3) := by decide +kernel
theorem dX3_spans_22 : decode cX3_spans 22 = .ok (.iconst 0, 1) := by decide +kernel
theorem dX3_spans_23 : decode cX3_spans 23 = .ok (.ireturn, 1) := by decide +kernel
set_option maxRecDepth 20000 in
theorem ggX3_put_X3_cutToLane : GoodIn wsX3_put wsX3_cutToLane := goodIn_r _ [6, 7, 8, 9, 10, 11] (by decide +kernel) (by decide +kernel)
set_option maxRecDepth 20000 in
theorem gX3_put_X3_cutToLane : GoodIn wsX3_put (wsV RX3 30 RX3 yX3_cutToLane wsX3_cutToLane) := goodIn_app (goodIn_of _ (by decide +kernel)) ggX3_put_X3_cutToLane
theorem dX3_put_0 : decode cX3_put 0 = .ok (.aload_n 0, 1) := by decide +kernel
theorem dX3_put_1 : decode cX3_put 1 = .ok (.getfield 9, 3) := by decide +kernel
theorem dX3_put_4 : decode cX3_put 4 = .ok (.iload_n 1, 1) := by decide +kernel
theorem dX3_put_5 : decode cX3_put 5 = .ok (.aload_n 0, 1) := by decide +kernel
theorem dX3_put_6 : decode cX3_put 6 = .ok (.lload_n 2, 1) := by decide +kernel
theorem dX3_put_7 : decode cX3_put 7 = .ok (.invokevirtual 30, 3) := by decide +kernel
theorem dX3_put_10 : decode cX3_put 10 = .ok (.lastore, 1) := by decide +kernel
theorem dX3_put_11 : decode cX3_put 11 = .ok (.return_, 1) := by decide +kernel
theorem dX3_cutToLane_0 : decode cX3_cutToLane 0 = .ok (.aload_n 0, 1) := by decide +kernel
theorem dX3_cutToLane_1 : decode cX3_cutToLane 1 = .ok (.getfield 19, 3) := by decide +kernel
theorem dX3_cutToLane_4 : decode cX3_cutToLane 4 = .ok (.tableswitch 42 0 2 #[28, 33, 38], 28) := by decide +kernel
theorem dX3_cutToLane_32 : decode cX3_cutToLane 32 = .ok (.lload_n 1, 1) := by decide +kernel
theorem dX3_cutToLane_33 : decode cX3_cutToLane 33 = .ok (.l2i, 1) := by decide +kernel
theorem dX3_cutToLane_34 : decode cX3_cutToLane 34 = .ok (.i2b, 1) := by decide +kernel
theorem dX3_cutToLane_35 : decode cX3_cutToLane 35 = .ok (.i2l, 1) := by decide +kernel
theorem dX3_cutToLane_36 : decode cX3_cutToLane 36 = .ok (.lreturn, 1) := by decide +kernel
theorem dX3_cutToLane_37 : decode cX3_cutToLane 37 = .ok (.lload_n 1, 1) := by decide +kernel
theorem dX3_cutToLane_38 : decode cX3_cutToLane 38 = .ok (.l2i, 1) := by decide +kernel
theorem dX3_cutToLane_39 : decode cX3_cutToLane 39 = .ok (.i2s, 1) := by decide +kernel
theorem dX3_cutToLane_40 : decode cX3_cutToLane 40 = .ok (.i2l, 1) := by decide +kernel
theorem dX3_cutToLane_41 : decode cX3_cutToLane 41 = .ok (.lreturn, 1) := by decide +kernel
theorem dX3_cutToLane_42 : decode cX3_cutToLane 42 = .ok (.lload_n 1, 1) := by decide +kernel
theorem dX3_cutToLane_43 : decode cX3_cutToLane 43 = .ok (.l2i, 1) := by decide +kernel
theorem dX3_cutToLane_44 : decode cX3_cutToLane 44 = .ok (.i2l, 1) := by decide +kernel
theorem dX3_cutToLane_45 : decode cX3_cutToLane 45 = .ok (.lreturn, 1) := by decide +kernel
theorem dX3_cutToLane_46 : decode cX3_cutToLane 46 = .ok (.lload_n 1, 1) := by decide +kernel
theorem dX3_cutToLane_47 : decode cX3_cutToLane 47 = .ok (.lreturn, 1) := by decide +kernel
set_option maxRecDepth 20000 in
theorem ggX4_init_X5_init : GoodIn wsX4_init wsX5_init := goodIn_r _ [19, 20, 2, 3, 21, 22, 23, 42, 43] (by decide +kernel) (by decide +kernel)
set_option maxRecDepth 20000 in
theorem gX4_init_X5_init_n17 : GoodIn wsX4_init (wsX5_init) := ggX4_init_X5_init
set_option maxRecDepth 20000 in
theorem ggX4_init_X0_init : GoodIn wsX4_init wsX0_init := goodIn_r _ [25, 26, 2, 3, 21, 27, 28, 29, 30, 31, 32, 33, 34, 44, 45, 46, 47, 48, 49, 50, 51] (by decide +kernel) (by decide +kernel)
set_option maxRecDepth 20000 in
theorem gX4_init_X0_init_n24 : GoodIn wsX4_init (wsX0_init) := ggX4_init_X0_init
theorem dX4_init_0 : decode cX4_init 0 = .ok (.aload_n 0, 1) := by decide +kernel
theorem dX4_init_1 : decode cX4_init 1 = .ok (.invokespecial 3, 3) := by decide +kernel
theorem dX4_init_4 : decode cX4_init 4 = .ok (.aload_n 0, 1) := by decide +kernel
theorem dX4_init_5 : decode cX4_init 5 = .ok (.bipush 90, 2) := by decide +kernel
theorem dX4_init_7 : decode cX4_init 7 = .ok (.newarray .char, 2) := by decide +kernel
theorem dX4_init_9 : decode cX4_init 9 = .ok (.putfield 9, 3) := by decide +kernel
theorem dX4_init_12 : decode cX4_init 12 = .ok (.aload_n 0, 1) := by decide +kernel
theorem dX4_init_13 : decode cX4_init 13 = .ok (.new 15, 3) := by decide +kernel
theorem dX4_init_16 : decode cX4_init 16 = .ok (.dup, 1) := by decide +kernel
theorem dX4_init_17 : decode cX4_init 17 = .ok (.invokespecial 17, 3) := by decide +kernel
theorem dX4_init_20 : decode cX4_init 20 = .ok (.putfield 18, 3) := by decide +kernel
theorem dX4_init_23 : decode cX4_init 23 = .ok (.aload_n 0, 1) := by decide +kernel
theorem dX4_init_24 : decode cX4_init 24 = .ok (.new 22, 3) := by decide +kernel
theorem dX4_init_27 : decode cX4_init 27 = .ok (.dup, 1) := by decide +kernel
theorem dX4_init_28 : decode cX4_init 28 = .ok (.invokespecial 24, 3) := by decide +kernel
theorem dX4_init_31 : decode cX4_init 31 = .ok (.putfield 25, 3) := by decide +kernel
theorem dX4_init_34 : decode cX4_init 34 = .ok (.aload_n 0, 1) := by decide +kernel
theorem dX4_init_35 : decode cX4_init 35 = .ok (.iconst 0, 1) := by decide +kernel
theorem dX4_init_36 : decode cX4_init 36 = .ok (.putfield 29, 3) := by decide +kernel
theorem dX4_init_39 : decode cX4_init 39 = .ok (.aload_n 0, 1) := by decide +kernel
theorem dX4_init_40 : decode cX4_init 40 = .ok (.iconst 0, 1) := by decide +kernel
theorem dX4_init_41 : decode cX4_init 41 = .ok (.putfield 33, 3) := by decide +kernel
theorem dX4_init_44 : decode cX4_init 44 = .ok (.aload_n 0, 1) := by decide +kernel
theorem dX4_init_45 : decode cX4_init 45 = .ok (.iconst 0, 1) := by decide +kernel
theorem dX4_init_46 : decode cX4_init 46 = .ok (.putfield 36, 3) := by decide +kernel
theorem dX4_init_49 : decode cX4_init 49 = .ok (.aload_n 0, 1) := by decide +kernel
theorem dX4_init_50 : decode cX4_init 50 = .ok (.iconst (-1), 1) := by decide +kernel
theorem dX4_init_51 : decode cX4_init 51 = .ok (.putfield 39, 3) := by decide +kernel
theorem dX4_init_54 : decode cX4_init 54 = .ok (.return_, 1) := by decide +kernel
theorem dX4_append_0 : decode cX4_append 0 = .ok (.aload_n 0, 1) := by decide +kernel
theorem dX4_append_1 : decode cX4_append 1 = .ok (.getfield 29, 3) := by decide +kernel
theorem dX4_append_4 : decode cX4_append 4 = .ok (.bipush 90, 2) := by decide +kernel
theorem dX4_append_6 : decode cX4_append 6 = .ok (.if_icmp .ge 23, 3) := by decide +kernel
theorem dX4_append_9 : decode cX4_append 9 = .ok (.aload_n 0, 1) := by decide +kernel
theorem dX4_append_10 : decode cX4_append 10 = .ok (.getfield 9, 3) := by decide +kernel
theorem dX4_append_13 : decode cX4_append 13 = .ok (.aload_n 0, 1) := by decide +kernel
theorem dX4_append_14 : decode cX4_append 14 = .ok (.getfield 29, 3) := by decide +kernel
theorem dX4_append_17 : decode cX4_append 17 = .ok (.iload_n 1, 1) := by decide +kernel
theorem dX4_append_18 : decode cX4_append 18 = .ok (.castore, 1) := by decide +kernel
theorem dX4_append_19 : decode cX4_append 19 = .ok (.aload_n 0, 1) := by decide +kernel
theorem dX4_append_20 : decode cX4_append 20 = .ok (.dup, 1) := by decide +kernel
theorem dX4_append_21 : decode cX4_append 21 = .ok (.getfield 29, 3) := by decide +kernel
theorem dX4_append_24 : decode cX4_append 24 = .ok (.iconst 1, 1) := by decide +kernel
theorem dX4_append_25 : decode cX4_append 25 = .ok (.iadd, 1) := by decide +kernel
theorem dX4_append_26 : decode cX4_append 26 = .ok (.putfield 29, 3) := by decide +kernel
theorem dX4_append_29 : decode cX4_append 29 = .ok (.return_, 1) := by decide +kernel
set_option maxRecDepth 20000 in
theorem ggX4_readRoof_X4_readNumber : GoodIn wsX4_readRoof wsX4_readNumber := goodIn_r _ [13, 1, 2, 14, 15, 16, 12, 17, 8, 18, 19, 20, 21, 22, 23, 24, 25, 26, 27, 28, 29, 64, 65, 66, 67, 68, 69, 70] (by decide +kernel) (by decide +kernel)
set_option maxRecDepth 20000 in
theorem gX4_readRoof_X4_readNumber : GoodIn wsX4_readRoof (wsV RX4 44 RX4 yX4_readNumber wsX4_readNumber) := goodIn_app (goodIn_of _ (by decide +kernel)) ggX4_readRoof_X4_readNumber
set_option maxRecDepth 20000 in
theorem ggX4_readRoof_X4_takeLetter : GoodIn wsX4_readRoof wsX4_takeLetter := goodIn_r _ [33, 1, 8, 18, 14, 15, 16, 12, 17, 64, 65, 66, 67, 68, 69, 70] (by decide +kernel) (by decide +kernel)
set_option maxRecDepth 20000 in
theorem gX4_readRoof_X4_takeLetter : GoodIn wsX4_readRoof (wsV RX4 48 RX4 yX4_takeLetter wsX4_takeLetter) := goodIn_app (goodIn_of _ (by decide +kernel)) ggX4_readRoof_X4_takeLetter
set_option maxRecDepth 20000 in
theorem ggX4_readRoof_X5_append : GoodIn wsX4_readRoof wsX5_append := goodIn_r _ [38, 39, 40, 71, 72] (by decide +kernel) (by decide +kernel)
set_option maxRecDepth 20000 in
theorem gX4_readRoof_X5_append : GoodIn wsX4_readRoof (wsV RX4 52 RX5 yX5_append wsX5_append) := goodIn_app (goodIn_of _ (by decide +kernel)) ggX4_readRoof_X5_append
set_option maxRecDepth 20000 in
theorem ggX4_readRoof_X4_readCoats : GoodIn wsX4_readRoof wsX4_readCoats := goodIn_r _ [44, 2, 45, 46, 47, 12, 48, 5, 49, 50, 51, 52, 1, 30, 31, 32, 33, 8, 18, 14, 15, 16, 17, 9, 10, 11, 13, 19, 20, 21, 22, 23, 24, 25, 26, 27, 28, 29, 53, 54, 55, 56, 57, 58, 59, 60, 61, 62, 63, 64, 65, 66, 67, 68, 69, 70, 73, 74, 75, 76, 77, 78, 79, 80] (by decide +kernel) (by decide +kernel)
set_option maxRecDepth 20000 in
theorem gX4_readRoof_X4_readCoats : GoodIn wsX4_readRoof (wsV RX4 56 RX4 yX4_readCoats wsX4_readCoats) := goodIn_app (goodIn_of _ (by decide +kernel)) ggX4_readRoof_X4_readCoats
set_option maxRecDepth 20000 in
theorem ggX4_readRoof_X4_skipBlanks : GoodIn wsX4_readRoof wsX4_skipBlanks := goodIn_r _ [17, 1, 8, 18, 64, 65, 66, 67, 68, 69, 70] (by decide +kernel) (by decide +kernel)
set_option maxRecDepth 20000 in
theorem gX4_readRoof_X4_skipBlanks : GoodIn wsX4_readRoof (wsV RX4 59 RX4 yX4_skipBlanks wsX4_skipBlanks) := goodIn_app (goodIn_of _ (by decide +kernel)) ggX4_readRoof_X4_skipBlanks
theorem dX4_readRoof_0 : decode cX4_readRoof 0 = .ok (.aload_n 0, 1) := by decide +kernel
theorem dX4_readRoof_1 : decode cX4_readRoof 1 = .ok (.iconst 0, 1) := by decide +kernel
theorem dX4_readRoof_2 : decode cX4_readRoof 2 = .ok (.putfield 36, 3) := by decide +kernel
theorem dX4_readRoof_5 : decode cX4_readRoof 5 = .ok (.aload_n 0, 1) := by decide +kernel
theorem dX4_readRoof_6 : decode cX4_readRoof 6 = .ok (.iconst (-1), 1) := by decide +kernel
theorem dX4_readRoof_7 : decode cX4_readRoof 7 = .ok (.putfield 39, 3) := by decide +kernel
theorem dX4_readRoof_10 : decode cX4_readRoof 10 = .ok (.aload_n 0, 1) := by decide +kernel
theorem dX4_readRoof_11 : decode cX4_readRoof 11 = .ok (.getfield 18, 3) := by decide +kernel
theorem dX4_readRoof_14 : decode cX4_readRoof 14 = .ok (.iconst 0, 1) := by decide +kernel
theorem dX4_readRoof_15 : decode cX4_readRoof 15 = .ok (.putfield 42, 3) := by decide +kernel
theorem dX4_readRoof_18 : decode cX4_readRoof 18 = .ok (.aload_n 0, 1) := by decide +kernel
theorem dX4_readRoof_19 : decode cX4_readRoof 19 = .ok (.getfield 25, 3) := by decide +kernel
theorem dX4_readRoof_22 : decode cX4_readRoof 22 = .ok (.iconst 0, 1) := by decide +kernel
theorem dX4_readRoof_23 : decode cX4_readRoof 23 = .ok (.putfield 43, 3) := by decide +kernel
theorem dX4_readRoof_26 : decode cX4_readRoof 26 = .ok (.aload_n 0, 1) := by decide +kernel
theorem dX4_readRoof_27 : decode cX4_readRoof 27 = .ok (.iconst 2, 1) := by decide +kernel
theorem dX4_readRoof_28 : decode cX4_readRoof 28 = .ok (.aload_n 0, 1) := by decide +kernel
theorem dX4_readRoof_29 : decode cX4_readRoof 29 = .ok (.iconst 1, 1) := by decide +kernel
theorem dX4_readRoof_30 : decode cX4_readRoof 30 = .ok (.bipush 99, 2) := by decide +kernel
theorem dX4_readRoof_32 : decode cX4_readRoof 32 = .ok (.invokevirtual 44, 3) := by decide +kernel
theorem dX4_readRoof_35 : decode cX4_readRoof 35 = .ok (.imul, 1) := by decide +kernel
theorem dX4_readRoof_36 : decode cX4_readRoof 36 = .ok (.putfield 33, 3) := by decide +kernel
theorem dX4_readRoof_39 : decode cX4_readRoof 39 = .ok (.iconst 0, 1) := by decide +kernel
theorem dX4_readRoof_40 : decode cX4_readRoof 40 = .ok (.istore_n 1, 1) := by decide +kernel
theorem dX4_readRoof_41 : decode cX4_readRoof 41 = .ok (.iload_n 1, 1) := by decide +kernel
theorem dX4_readRoof_42 : decode cX4_readRoof 42 = .ok (.bipush 8, 2) := by decide +kernel
theorem dX4_readRoof_44 : decode cX4_readRoof 44 = .ok (.if_icmp .ge 39, 3) := by decide +kernel
theorem dX4_readRoof_47 : decode cX4_readRoof 47 = .ok (.aload_n 0, 1) := by decide +kernel
theorem dX4_readRoof_48 : decode cX4_readRoof 48 = .ok (.getfield 39, 3) := by decide +kernel
theorem dX4_readRoof_51 : decode cX4_readRoof 51 = .ok (.ifCond .ge 32, 3) := by decide +kernel
theorem dX4_readRoof_54 : decode cX4_readRoof 54 = .ok (.aload_n 0, 1) := by decide +kernel
theorem dX4_readRoof_55 : decode cX4_readRoof 55 = .ok (.bipush 43, 2) := by decide +kernel
theorem dX4_readRoof_57 : decode cX4_readRoof 57 = .ok (.invokevirtual 48, 3) := by decide +kernel
theorem dX4_readRoof_60 : decode cX4_readRoof 60 = .ok (.ifCond .eq 23, 3) := by decide +kernel
theorem dX4_readRoof_63 : decode cX4_readRoof 63 = .ok (.aload_n 0, 1) := by decide +kernel
theorem dX4_readRoof_64 : decode cX4_readRoof 64 = .ok (.getfield 18, 3) := by decide +kernel
theorem dX4_readRoof_67 : decode cX4_readRoof 67 = .ok (.aload_n 0, 1) := by decide +kernel
theorem dX4_readRoof_68 : decode cX4_readRoof 68 = .ok (.iconst 0, 1) := by decide +kernel
theorem dX4_readRoof_69 : decode cX4_readRoof 69 = .ok (.bipush 40, 2) := by decide +kernel
theorem dX4_readRoof_71 : decode cX4_readRoof 71 = .ok (.invokevirtual 44, 3) := by decide +kernel
theorem dX4_readRoof_74 : decode cX4_readRoof 74 = .ok (.invokevirtual 52, 3) := by decide +kernel
theorem dX4_readRoof_77 : decode cX4_readRoof 77 = .ok (.iinc 1 1, 3) := by decide +kernel
theorem dX4_readRoof_80 : decode cX4_readRoof 80 = .ok (.goto (-39), 3) := by decide +kernel
theorem dX4_readRoof_83 : decode cX4_readRoof 83 = .ok (.aload_n 0, 1) := by decide +kernel
theorem dX4_readRoof_84 : decode cX4_readRoof 84 = .ok (.getfield 39, 3) := by decide +kernel
theorem dX4_readRoof_87 : decode cX4_readRoof 87 = .ok (.ifCond .ge 16, 3) := by decide +kernel
theorem dX4_readRoof_90 : decode cX4_readRoof 90 = .ok (.aload_n 0, 1) := by decide +kernel
theorem dX4_readRoof_91 : decode cX4_readRoof 91 = .ok (.bipush 59, 2) := by decide +kernel
theorem dX4_readRoof_93 : decode cX4_readRoof 93 = .ok (.invokevirtual 48, 3) := by decide +kernel
theorem dX4_readRoof_96 : decode cX4_readRoof 96 = .ok (.ifCond .eq 7, 3) := by decide +kernel
theorem dX4_readRoof_99 : decode cX4_readRoof 99 = .ok (.aload_n 0, 1) := by decide +kernel
theorem dX4_readRoof_100 : decode cX4_readRoof 100 = .ok (.invokevirtual 56, 3) := by decide +kernel
theorem dX4_readRoof_103 : decode cX4_readRoof 103 = .ok (.aload_n 0, 1) := by decide +kernel
theorem dX4_readRoof_104 : decode cX4_readRoof 104 = .ok (.invokevirtual 59, 3) := by decide +kernel
theorem dX4_readRoof_107 : decode cX4_readRoof 107 = .ok (.aload_n 0, 1) := by decide +kernel
theorem dX4_readRoof_108 : decode cX4_readRoof 108 = .ok (.getfield 39, 3) := by decide +kernel
theorem dX4_readRoof_111 : decode cX4_readRoof 111 = .ok (.ifCond .ge 22, 3) := by decide +kernel
theorem dX4_readRoof_114 : decode cX4_readRoof 114 = .ok (.aload_n 0, 1) := by decide +kernel
theorem dX4_readRoof_115 : decode cX4_readRoof 115 = .ok (.getfield 36, 3) := by decide +kernel
theorem dX4_readRoof_118 : decode cX4_readRoof 118 = .ok (.aload_n 0, 1) := by decide +kernel
theorem dX4_readRoof_119 : decode cX4_readRoof 119 = .ok (.getfield 29, 3) := by decide +kernel
theorem dX4_readRoof_122 : decode cX4_readRoof 122 = .ok (.if_icmp .ge 11, 3) := by decide +kernel
theorem dX4_readRoof_125 : decode cX4_readRoof 125 = .ok (.aload_n 0, 1) := by decide +kernel
theorem dX4_readRoof_126 : decode cX4_readRoof 126 = .ok (.aload_n 0, 1) := by decide +kernel
theorem dX4_readRoof_127 : decode cX4_readRoof 127 = .ok (.getfield 36, 3) := by decide +kernel
theorem dX4_readRoof_130 : decode cX4_readRoof 130 = .ok (.putfield 39, 3) := by decide +kernel
theorem dX4_readRoof_133 : decode cX4_readRoof 133 = .ok (.aload_n 0, 1) := by decide +kernel
theorem dX4_readRoof_134 : decode cX4_readRoof 134 = .ok (.getfield 39, 3) := by decide +kernel
theorem dX4_readRoof_137 : decode cX4_readRoof 137 = .ok (.ireturn, 1) := by decide +kernel
set_option maxRecDepth 20000 in
theorem ggX4_readCoats_X4_readCoat : GoodIn wsX4_readCoats wsX4_readCoat := goodIn_r _ [6, 1, 7, 8, 9, 10, 5, 11, 12, 13, 14, 15, 16, 17, 18, 19, 20, 21, 22, 23, 24, 25, 26, 27, 28, 29, 30, 31, 32, 33, 34, 35, 36, 37, 38, 39, 40, 41, 42, 43, 44, 45, 46, 47, 48, 49, 50, 51, 52, 53, 54, 55, 56, 57, 58, 59, 60, 61, 62, 63] (by decide +kernel) (by decide +kernel)
set_option maxRecDepth 20000 in
theorem gX4_readCoats_X4_readCoat : GoodIn wsX4_readCoats (wsV RX4 62 RX4 yX4_readCoat wsX4_readCoat) := goodIn_app (goodIn_of _ (by decide +kernel)) ggX4_readCoats_X4_readCoat
set_option maxRecDepth 20000 in
theorem ggX4_readCoats_X4_takeLetter : GoodIn wsX4_readCoats wsX4_takeLetter := goodIn_r _ [16, 12, 17, 18, 19, 20, 21, 5, 22, 49, 50, 51, 52, 53, 54, 55] (by decide +kernel) (by decide +kernel)
set_option maxRecDepth 20000 in
theorem gX4_readCoats_X4_takeLetter : GoodIn wsX4_readCoats (wsV RX4 48 RX4 yX4_takeLetter wsX4_takeLetter) := goodIn_app (goodIn_of _ (by decide +kernel)) ggX4_readCoats_X4_takeLetter
theorem dX4_readCoats_0 : decode cX4_readCoats 0 = .ok (.aload_n 0, 1) := by decide +kernel
theorem dX4_readCoats_1 : decode cX4_readCoats 1 = .ok (.invokevirtual 62, 3) := by decide +kernel
theorem dX4_readCoats_4 : decode cX4_readCoats 4 = .ok (.iconst 1, 1) := by decide +kernel
theorem dX4_readCoats_5 : decode cX4_readCoats 5 = .ok (.istore_n 1, 1) := by decide +kernel
theorem dX4_readCoats_6 : decode cX4_readCoats 6 = .ok (.iload_n 1, 1) := by decide +kernel
theorem dX4_readCoats_7 : decode cX4_readCoats 7 = .ok (.bipush 10, 2) := by decide +kernel
theorem dX4_readCoats_9 : decode cX4_readCoats 9 = .ok (.if_icmp .ge 29, 3) := by decide +kernel
theorem dX4_readCoats_12 : decode cX4_readCoats 12 = .ok (.aload_n 0, 1) := by decide +kernel
theorem dX4_readCoats_13 : decode cX4_readCoats 13 = .ok (.getfield 39, 3) := by decide +kernel
theorem dX4_readCoats_16 : decode cX4_readCoats 16 = .ok (.ifCond .ge 22, 3) := by decide +kernel
theorem dX4_readCoats_19 : decode cX4_readCoats 19 = .ok (.aload_n 0, 1) := by decide +kernel
theorem dX4_readCoats_20 : decode cX4_readCoats 20 = .ok (.bipush 44, 2) := by decide +kernel
theorem dX4_readCoats_22 : decode cX4_readCoats 22 = .ok (.invokevirtual 48, 3) := by decide +kernel
theorem dX4_readCoats_25 : decode cX4_readCoats 25 = .ok (.ifCond .eq 13, 3) := by decide +kernel
theorem dX4_readCoats_28 : decode cX4_readCoats 28 = .ok (.aload_n 0, 1) := by decide +kernel
theorem dX4_readCoats_29 : decode cX4_readCoats 29 = .ok (.invokevirtual 62, 3) := by decide +kernel
theorem dX4_readCoats_32 : decode cX4_readCoats 32 = .ok (.iinc 1 1, 3) := by decide +kernel
theorem dX4_readCoats_35 : decode cX4_readCoats 35 = .ok (.goto (-29), 3) := by decide +kernel
theorem dX4_readCoats_38 : decode cX4_readCoats 38 = .ok (.return_, 1) := by decide +kernel
set_option maxRecDepth 20000 in
theorem ggX4_readCoat_X4_readKind : GoodIn wsX4_readCoat wsX4_readKind := goodIn_r _ [7, 8, 1, 9, 10, 11, 6, 12, 13, 14, 15, 16, 17, 18, 45, 46, 47, 48, 49, 50, 51] (by decide +kernel) (by decide +kernel)
set_option maxRecDepth 20000 in
theorem gX4_readCoat_X4_readKind : GoodIn wsX4_readCoat (wsV RX4 65 RX4 yX4_readKind wsX4_readKind) := goodIn_app (goodIn_of _ (by decide +kernel)) ggX4_readCoat_X4_readKind
set_option maxRecDepth 20000 in
theorem ggX4_readCoat_X4_readNumber : GoodIn wsX4_readCoat wsX4_readNumber := goodIn_r _ [22, 8, 1, 15, 16, 17, 6, 18, 13, 14, 23, 24, 25, 26, 27, 28, 29, 30, 31, 32, 33, 45, 46, 47, 48, 49, 50, 51] (by decide +kernel) (by decide +kernel)
set_option maxRecDepth 20000 in
theorem gX4_readCoat_X4_readNumber : GoodIn wsX4_readCoat (wsV RX4 44 RX4 yX4_readNumber wsX4_readNumber) := goodIn_app (goodIn_of _ (by decide +kernel)) ggX4_readCoat_X4_readNumber
set_option maxRecDepth 20000 in
theorem ggX4_readCoat_X4_takeLetter : GoodIn wsX4_readCoat wsX4_takeLetter := goodIn_r _ [12, 8, 13, 14, 15, 16, 17, 6, 18, 45, 46, 47, 48, 49, 50, 51] (by decide +kernel) (by decide +kernel)
set_option maxRecDepth 20000 in
theorem gX4_readCoat_X4_takeLetter : GoodIn wsX4_readCoat (wsV RX4 48 RX4 yX4_takeLetter wsX4_takeLetter) := goodIn_app (goodIn_of _ (by decide +kernel)) ggX4_readCoat_X4_takeLetter
set_option maxRecDepth 20000 in
theorem ggX4_readCoat_X4_readDigit : GoodIn wsX4_readCoat wsX4_readDigit := goodIn_r _ [26, 8, 1, 14, 15, 16, 17, 6, 18, 13, 27, 28, 29, 30, 45, 46, 47, 48, 49, 50, 51] (by decide +kernel) (by decide +kernel)
set_option maxRecDepth 20000 in
theorem gX4_readCoat_X4_readDigit : GoodIn wsX4_readCoat (wsV RX4 69 RX4 yX4_readDigit wsX4_readDigit) := goodIn_app (goodIn_of _ (by decide +kernel)) ggX4_readCoat_X4_readDigit
set_option maxRecDepth 20000 in
theorem ggX4_readCoat_X0_putOver : GoodIn wsX4_readCoat wsX0_putOver := goodIn_r _ [38, 39, 40, 41, 42, 43, 44, 52, 53, 54, 55, 56, 57, 58, 59] (by decide +kernel) (by decide +kernel)
set_option maxRecDepth 20000 in
theorem gX4_readCoat_X0_putOver : GoodIn wsX4_readCoat (wsV RX4 72 RX0 yX0_putOver wsX0_putOver) := goodIn_app (goodIn_of _ (by decide +kernel)) ggX4_readCoat_X0_putOver
theorem dX4_readCoat_0 : decode cX4_readCoat 0 = .ok (.aload_n 0, 1) := by decide +kernel
theorem dX4_readCoat_1 : decode cX4_readCoat 1 = .ok (.invokevirtual 65, 3) := by decide +kernel
theorem dX4_readCoat_4 : decode cX4_readCoat 4 = .ok (.istore_n 1, 1) := by decide +kernel
theorem dX4_readCoat_5 : decode cX4_readCoat 5 = .ok (.aload_n 0, 1) := by decide +kernel
theorem dX4_readCoat_6 : decode cX4_readCoat 6 = .ok (.getfield 39, 3) := by decide +kernel
theorem dX4_readCoat_9 : decode cX4_readCoat 9 = .ok (.ifCond .ge 13, 3) := by decide +kernel
theorem dX4_readCoat_12 : decode cX4_readCoat 12 = .ok (.aload_n 0, 1) := by decide +kernel
theorem dX4_readCoat_13 : decode cX4_readCoat 13 = .ok (.iconst 1, 1) := by decide +kernel
theorem dX4_readCoat_14 : decode cX4_readCoat 14 = .ok (.bipush 20, 2) := by decide +kernel
theorem dX4_readCoat_16 : decode cX4_readCoat 16 = .ok (.invokevirtual 44, 3) := by decide +kernel
theorem dX4_readCoat_19 : decode cX4_readCoat 19 = .ok (.goto 4, 3) := by decide +kernel
theorem dX4_readCoat_22 : decode cX4_readCoat 22 = .ok (.iconst 0, 1) := by decide +kernel
theorem dX4_readCoat_23 : decode cX4_readCoat 23 = .ok (.istore_n 2, 1) := by decide +kernel
theorem dX4_readCoat_24 : decode cX4_readCoat 24 = .ok (.aload_n 0, 1) := by decide +kernel
theorem dX4_readCoat_25 : decode cX4_readCoat 25 = .ok (.getfield 39, 3) := by decide +kernel
theorem dX4_readCoat_28 : decode cX4_readCoat 28 = .ok (.ifCond .ge 19, 3) := by decide +kernel
theorem dX4_readCoat_31 : decode cX4_readCoat 31 = .ok (.aload_n 0, 1) := by decide +kernel
theorem dX4_readCoat_32 : decode cX4_readCoat 32 = .ok (.bipush 126, 2) := by decide +kernel
theorem dX4_readCoat_34 : decode cX4_readCoat 34 = .ok (.invokevirtual 48, 3) := by decide +kernel
theorem dX4_readCoat_37 : decode cX4_readCoat 37 = .ok (.ifCond .eq 10, 3) := by decide +kernel
theorem dX4_readCoat_40 : decode cX4_readCoat 40 = .ok (.aload_n 0, 1) := by decide +kernel
theorem dX4_readCoat_41 : decode cX4_readCoat 41 = .ok (.invokevirtual 69, 3) := by decide +kernel
theorem dX4_readCoat_44 : decode cX4_readCoat 44 = .ok (.goto 4, 3) := by decide +kernel
theorem dX4_readCoat_47 : decode cX4_readCoat 47 = .ok (.iconst 0, 1) := by decide +kernel
theorem dX4_readCoat_48 : decode cX4_readCoat 48 = .ok (.istore_n 3, 1) := by decide +kernel
theorem dX4_readCoat_49 : decode cX4_readCoat 49 = .ok (.aload_n 0, 1) := by decide +kernel
theorem dX4_readCoat_50 : decode cX4_readCoat 50 = .ok (.getfield 39, 3) := by decide +kernel
theorem dX4_readCoat_53 : decode cX4_readCoat 53 = .ok (.ifCond .ge 13, 3) := by decide +kernel
theorem dX4_readCoat_56 : decode cX4_readCoat 56 = .ok (.aload_n 0, 1) := by decide +kernel
theorem dX4_readCoat_57 : decode cX4_readCoat 57 = .ok (.getfield 25, 3) := by decide +kernel
theorem dX4_readCoat_60 : decode cX4_readCoat 60 = .ok (.iload_n 1, 1) := by decide +kernel
theorem dX4_readCoat_61 : decode cX4_readCoat 61 = .ok (.iload_n 2, 1) := by decide +kernel
theorem dX4_readCoat_62 : decode cX4_readCoat 62 = .ok (.iload_n 3, 1) := by decide +kernel
theorem dX4_readCoat_63 : decode cX4_readCoat 63 = .ok (.invokevirtual 72, 3) := by decide +kernel
theorem dX4_readCoat_66 : decode cX4_readCoat 66 = .ok (.return_, 1) := by decide +kernel
set_option maxRecDepth 20000 in
theorem ggX4_readKind_X4_takeLetter : GoodIn wsX4_readKind wsX4_takeLetter := goodIn_r _ [7, 1, 8, 9, 10, 11, 12, 6, 13, 14, 15, 16, 17, 18, 19, 20] (by decide +kernel) (by decide +kernel)
set_option maxRecDepth 20000 in
theorem gX4_readKind_X4_takeLetter : GoodIn wsX4_readKind (wsV RX4 48 RX4 yX4_takeLetter wsX4_takeLetter) := goodIn_app (goodIn_of _ (by decide +kernel)) ggX4_readKind_X4_takeLetter
theorem dX4_readKind_0 : decode cX4_readKind 0 = .ok (.aload_n 0, 1) := by decide +kernel
theorem dX4_readKind_1 : decode cX4_readKind 1 = .ok (.bipush 114, 2) := by decide +kernel
theorem dX4_readKind_3 : decode cX4_readKind 3 = .ok (.invokevirtual 48, 3) := by decide +kernel
theorem dX4_readKind_6 : decode cX4_readKind 6 = .ok (.ifCond .eq 5, 3) := by decide +kernel
theorem dX4_readKind_9 : decode cX4_readKind 9 = .ok (.iconst 0, 1) := by decide +kernel
theorem dX4_readKind_10 : decode cX4_readKind 10 = .ok (.ireturn, 1) := by decide +kernel
theorem dX4_readKind_11 : decode cX4_readKind 11 = .ok (.aload_n 0, 1) := by decide +kernel
theorem dX4_readKind_12 : decode cX4_readKind 12 = .ok (.bipush 119, 2) := by decide +kernel
theorem dX4_readKind_14 : decode cX4_readKind 14 = .ok (.invokevirtual 48, 3) := by decide +kernel
theorem dX4_readKind_17 : decode cX4_readKind 17 = .ok (.ifCond .eq 5, 3) := by decide +kernel
theorem dX4_readKind_20 : decode cX4_readKind 20 = .ok (.iconst 1, 1) := by decide +kernel
theorem dX4_readKind_21 : decode cX4_readKind 21 = .ok (.ireturn, 1) := by decide +kernel
theorem dX4_readKind_22 : decode cX4_readKind 22 = .ok (.aload_n 0, 1) := by decide +kernel
theorem dX4_readKind_23 : decode cX4_readKind 23 = .ok (.bipush 115, 2) := by decide +kernel
theorem dX4_readKind_25 : decode cX4_readKind 25 = .ok (.invokevirtual 48, 3) := by decide +kernel
theorem dX4_readKind_28 : decode cX4_readKind 28 = .ok (.ifCond .eq 5, 3) := by decide +kernel
theorem dX4_readKind_31 : decode cX4_readKind 31 = .ok (.iconst 2, 1) := by decide +kernel
theorem dX4_readKind_32 : decode cX4_readKind 32 = .ok (.ireturn, 1) := by decide +kernel
theorem dX4_readKind_33 : decode cX4_readKind 33 = .ok (.aload_n 0, 1) := by decide +kernel
theorem dX4_readKind_34 : decode cX4_readKind 34 = .ok (.bipush 121, 2) := by decide +kernel
theorem dX4_readKind_36 : decode cX4_readKind 36 = .ok (.invokevirtual 48, 3) := by decide +kernel
theorem dX4_readKind_39 : decode cX4_readKind 39 = .ok (.ifCond .eq 5, 3) := by decide +kernel
theorem dX4_readKind_42 : decode cX4_readKind 42 = .ok (.iconst 3, 1) := by decide +kernel
theorem dX4_readKind_43 : decode cX4_readKind 43 = .ok (.ireturn, 1) := by decide +kernel
theorem dX4_readKind_44 : decode cX4_readKind 44 = .ok (.aload_n 0, 1) := by decide +kernel
theorem dX4_readKind_45 : decode cX4_readKind 45 = .ok (.bipush 116, 2) := by decide +kernel
theorem dX4_readKind_47 : decode cX4_readKind 47 = .ok (.invokevirtual 48, 3) := by decide +kernel
theorem dX4_readKind_50 : decode cX4_readKind 50 = .ok (.ifCond .eq 5, 3) := by decide +kernel
theorem dX4_readKind_53 : decode cX4_readKind 53 = .ok (.iconst 4, 1) := by decide +kernel
theorem dX4_readKind_54 : decode cX4_readKind 54 = .ok (.ireturn, 1) := by decide +kernel
theorem dX4_readKind_55 : decode cX4_readKind 55 = .ok (.aload_n 0, 1) := by decide +kernel
theorem dX4_readKind_56 : decode cX4_readKind 56 = .ok (.aload_n 0, 1) := by decide +kernel
theorem dX4_readKind_57 : decode cX4_readKind 57 = .ok (.getfield 36, 3) := by decide +kernel
theorem dX4_readKind_60 : decode cX4_readKind 60 = .ok (.putfield 39, 3) := by decide +kernel
theorem dX4_readKind_63 : decode cX4_readKind 63 = .ok (.iconst 0, 1) := by decide +kernel
theorem dX4_readKind_64 : decode cX4_readKind 64 = .ok (.ireturn, 1) := by decide +kernel
set_option maxRecDepth 20000 in
theorem ggX4_readNumber_X4_skipBlanks : GoodIn wsX4_readNumber wsX4_skipBlanks := goodIn_r _ [7, 1, 8, 9, 21, 22, 23, 24, 25, 26, 27] (by decide +kernel) (by decide +kernel)
set_option maxRecDepth 20000 in
theorem gX4_readNumber_X4_skipBlanks : GoodIn wsX4_readNumber (wsV RX4 59 RX4 yX4_skipBlanks wsX4_skipBlanks) := goodIn_app (goodIn_of _ (by decide +kernel)) ggX4_readNumber_X4_skipBlanks
set_option maxRecDepth 20000 in
theorem ggX4_readNumber_X4_readDigit : GoodIn wsX4_readNumber wsX4_readDigit := goodIn_r _ [13, 1, 2, 9, 3, 4, 5, 6, 7, 8, 14, 15, 16, 17, 21, 22, 23, 24, 25, 26, 27] (by decide +kernel) (by decide +kernel)
set_option maxRecDepth 20000 in
theorem gX4_readNumber_X4_readDigit : GoodIn wsX4_readNumber (wsV RX4 69 RX4 yX4_readDigit wsX4_readDigit) := goodIn_app (goodIn_of _ (by decide +kernel)) ggX4_readNumber_X4_readDigit
set_option maxRecDepth 20000 in
theorem ggX4_readNumber_X4_digitStandsHere : GoodIn wsX4_readNumber wsX4_digitStandsHere := goodIn_r _ [17, 1, 8, 9, 21, 22, 23, 24, 25, 26, 27] (by decide +kernel) (by decide +kernel)
set_option maxRecDepth 20000 in
theorem gX4_readNumber_X4_digitStandsHere : GoodIn wsX4_readNumber (wsV RX4 76 RX4 yX4_digitStandsHere wsX4_digitStandsHere) := goodIn_app (goodIn_of _ (by decide +kernel)) ggX4_readNumber_X4_digitStandsHere
set_option maxRecDepth 20000 in
theorem ggX4_readNumber_X6_outside : GoodIn wsX4_readNumber wsX6_outside := goodIn_r _ [20] (by decide +kernel) (by decide +kernel)
set_option maxRecDepth 20000 in
theorem gX4_readNumber_X6_outside_n80 : GoodIn wsX4_readNumber (wsX6_outside) := ggX4_readNumber_X6_outside
theorem dX4_readNumber_0 : decode cX4_readNumber 0 = .ok (.aload_n 0, 1) := by decide +kernel
theorem dX4_readNumber_1 : decode cX4_readNumber 1 = .ok (.invokevirtual 59, 3) := by decide +kernel
theorem dX4_readNumber_4 : decode cX4_readNumber 4 = .ok (.aload_n 0, 1) := by decide +kernel
theorem dX4_readNumber_5 : decode cX4_readNumber 5 = .ok (.getfield 36, 3) := by decide +kernel
theorem dX4_readNumber_8 : decode cX4_readNumber 8 = .ok (.istore_n 3, 1) := by decide +kernel
theorem dX4_readNumber_9 : decode cX4_readNumber 9 = .ok (.aload_n 0, 1) := by decide +kernel
theorem dX4_readNumber_10 : decode cX4_readNumber 10 = .ok (.invokevirtual 69, 3) := by decide +kernel
theorem dX4_readNumber_13 : decode cX4_readNumber 13 = .ok (.istore 4, 2) := by decide +kernel
theorem dX4_readNumber_15 : decode cX4_readNumber 15 = .ok (.aload_n 0, 1) := by decide +kernel
theorem dX4_readNumber_16 : decode cX4_readNumber 16 = .ok (.getfield 39, 3) := by decide +kernel
theorem dX4_readNumber_19 : decode cX4_readNumber 19 = .ok (.ifCond .ge 22, 3) := by decide +kernel
theorem dX4_readNumber_22 : decode cX4_readNumber 22 = .ok (.aload_n 0, 1) := by decide +kernel
theorem dX4_readNumber_23 : decode cX4_readNumber 23 = .ok (.invokevirtual 76, 3) := by decide +kernel
theorem dX4_readNumber_26 : decode cX4_readNumber 26 = .ok (.ifCond .eq 15, 3) := by decide +kernel
theorem dX4_readNumber_29 : decode cX4_readNumber 29 = .ok (.bipush 10, 2) := by decide +kernel
theorem dX4_readNumber_31 : decode cX4_readNumber 31 = .ok (.iload 4, 2) := by decide +kernel
theorem dX4_readNumber_33 : decode cX4_readNumber 33 = .ok (.imul, 1) := by decide +kernel
theorem dX4_readNumber_34 : decode cX4_readNumber 34 = .ok (.aload_n 0, 1) := by decide +kernel
theorem dX4_readNumber_35 : decode cX4_readNumber 35 = .ok (.invokevirtual 69, 3) := by decide +kernel
theorem dX4_readNumber_38 : decode cX4_readNumber 38 = .ok (.iadd, 1) := by decide +kernel
theorem dX4_readNumber_39 : decode cX4_readNumber 39 = .ok (.istore 4, 2) := by decide +kernel
theorem dX4_readNumber_41 : decode cX4_readNumber 41 = .ok (.aload_n 0, 1) := by decide +kernel
theorem dX4_readNumber_42 : decode cX4_readNumber 42 = .ok (.getfield 39, 3) := by decide +kernel
theorem dX4_readNumber_45 : decode cX4_readNumber 45 = .ok (.ifCond .ge 18, 3) := by decide +kernel
theorem dX4_readNumber_48 : decode cX4_readNumber 48 = .ok (.iload 4, 2) := by decide +kernel
theorem dX4_readNumber_50 : decode cX4_readNumber 50 = .ok (.iload_n 1, 1) := by decide +kernel
theorem dX4_readNumber_51 : decode cX4_readNumber 51 = .ok (.iload_n 2, 1) := by decide +kernel
theorem dX4_readNumber_52 : decode cX4_readNumber 52 = .ok (.invokestatic 80, 3) := by decide +kernel
theorem dX4_readNumber_55 : decode cX4_readNumber 55 = .ok (.ifCond .eq 8, 3) := by decide +kernel
theorem dX4_readNumber_58 : decode cX4_readNumber 58 = .ok (.aload_n 0, 1) := by decide +kernel
theorem dX4_readNumber_59 : decode cX4_readNumber 59 = .ok (.iload_n 3, 1) := by decide +kernel
theorem dX4_readNumber_60 : decode cX4_readNumber 60 = .ok (.putfield 39, 3) := by decide +kernel
theorem dX4_readNumber_63 : decode cX4_readNumber 63 = .ok (.iload 4, 2) := by decide +kernel
theorem dX4_readNumber_65 : decode cX4_readNumber 65 = .ok (.ireturn, 1) := by decide +kernel
set_option maxRecDepth 20000 in
theorem ggX4_readDigit_X4_skipBlanks : GoodIn wsX4_readDigit wsX4_skipBlanks := goodIn_r _ [8, 1, 9, 3, 14, 15, 16, 17, 18, 19, 20] (by decide +kernel) (by decide +kernel)
set_option maxRecDepth 20000 in
theorem gX4_readDigit_X4_skipBlanks : GoodIn wsX4_readDigit (wsV RX4 59 RX4 yX4_skipBlanks wsX4_skipBlanks) := goodIn_app (goodIn_of _ (by decide +kernel)) ggX4_readDigit_X4_skipBlanks
set_option maxRecDepth 20000 in
theorem ggX4_readDigit_X4_digitStandsHere : GoodIn wsX4_readDigit wsX4_digitStandsHere := goodIn_r _ [13, 1, 9, 3, 14, 15, 16, 17, 18, 19, 20] (by decide +kernel) (by decide +kernel)
set_option maxRecDepth 20000 in
theorem gX4_readDigit_X4_digitStandsHere : GoodIn wsX4_readDigit (wsV RX4 76 RX4 yX4_digitStandsHere wsX4_digitStandsHere) := goodIn_app (goodIn_of _ (by decide +kernel)) ggX4_readDigit_X4_digitStandsHere
theorem dX4_readDigit_0 : decode cX4_readDigit 0 = .ok (.aload_n 0, 1) := by decide +kernel
theorem dX4_readDigit_1 : decode cX4_readDigit 1 = .ok (.invokevirtual 59, 3) := by decide +kernel
theorem dX4_readDigit_4 : decode cX4_readDigit 4 = .ok (.aload_n 0, 1) := by decide +kernel
theorem dX4_readDigit_5 : decode cX4_readDigit 5 = .ok (.invokevirtual 76, 3) := by decide +kernel
theorem dX4_readDigit_8 : decode cX4_readDigit 8 = .ok (.ifCond .ne 13, 3) := by decide +kernel
theorem dX4_readDigit_11 : decode cX4_readDigit 11 = .ok (.aload_n 0, 1) := by decide +kernel
theorem dX4_readDigit_12 : decode cX4_readDigit 12 = .ok (.aload_n 0, 1) := by decide +kernel
theorem dX4_readDigit_13 : decode cX4_readDigit 13 = .ok (.getfield 36, 3) := by decide +kernel
theorem dX4_readDigit_16 : decode cX4_readDigit 16 = .ok (.putfield 39, 3) := by decide +kernel
theorem dX4_readDigit_19 : decode cX4_readDigit 19 = .ok (.iconst 0, 1) := by decide +kernel
theorem dX4_readDigit_20 : decode cX4_readDigit 20 = .ok (.ireturn, 1) := by decide +kernel
theorem dX4_readDigit_21 : decode cX4_readDigit 21 = .ok (.aload_n 0, 1) := by decide +kernel
theorem dX4_readDigit_22 : decode cX4_readDigit 22 = .ok (.getfield 9, 3) := by decide +kernel
theorem dX4_readDigit_25 : decode cX4_readDigit 25 = .ok (.aload_n 0, 1) := by decide +kernel
theorem dX4_readDigit_26 : decode cX4_readDigit 26 = .ok (.getfield 36, 3) := by decide +kernel
theorem dX4_readDigit_29 : decode cX4_readDigit 29 = .ok (.caload, 1) := by decide +kernel
theorem dX4_readDigit_30 : decode cX4_readDigit 30 = .ok (.bipush 48, 2) := by decide +kernel
theorem dX4_readDigit_32 : decode cX4_readDigit 32 = .ok (.isub, 1) := by decide +kernel
theorem dX4_readDigit_33 : decode cX4_readDigit 33 = .ok (.istore_n 1, 1) := by decide +kernel
theorem dX4_readDigit_34 : decode cX4_readDigit 34 = .ok (.aload_n 0, 1) := by decide +kernel
theorem dX4_readDigit_35 : decode cX4_readDigit 35 = .ok (.dup, 1) := by decide +kernel
theorem dX4_readDigit_36 : decode cX4_readDigit 36 = .ok (.getfield 36, 3) := by decide +kernel
theorem dX4_readDigit_39 : decode cX4_readDigit 39 = .ok (.iconst 1, 1) := by decide +kernel
theorem dX4_readDigit_40 : decode cX4_readDigit 40 = .ok (.iadd, 1) := by decide +kernel
theorem dX4_readDigit_41 : decode cX4_readDigit 41 = .ok (.putfield 36, 3) := by decide +kernel
theorem dX4_readDigit_44 : decode cX4_readDigit 44 = .ok (.iload_n 1, 1) := by decide +kernel
theorem dX4_readDigit_45 : decode cX4_readDigit 45 = .ok (.ireturn, 1) := by decide +kernel
set_option maxRecDepth 20000 in
theorem ggX4_takeLetter_X4_skipBlanks : GoodIn wsX4_takeLetter wsX4_skipBlanks := goodIn_r _ [8, 1, 2, 3, 9, 10, 11, 12, 13, 14, 15] (by decide +kernel) (by decide +kernel)
set_option maxRecDepth 20000 in
theorem gX4_takeLetter_X4_skipBlanks : GoodIn wsX4_takeLetter (wsV RX4 59 RX4 yX4_skipBlanks wsX4_skipBlanks) := goodIn_app (goodIn_of _ (by decide +kernel)) ggX4_takeLetter_X4_skipBlanks
theorem dX4_takeLetter_0 : decode cX4_takeLetter 0 = .ok (.aload_n 0, 1) := by decide +kernel
theorem dX4_takeLetter_1 : decode cX4_takeLetter 1 = .ok (.invokevirtual 59, 3) := by decide +kernel
theorem dX4_takeLetter_4 : decode cX4_takeLetter 4 = .ok (.aload_n 0, 1) := by decide +kernel
theorem dX4_takeLetter_5 : decode cX4_takeLetter 5 = .ok (.getfield 36, 3) := by decide +kernel
theorem dX4_takeLetter_8 : decode cX4_takeLetter 8 = .ok (.aload_n 0, 1) := by decide +kernel
theorem dX4_takeLetter_9 : decode cX4_takeLetter 9 = .ok (.getfield 29, 3) := by decide +kernel
theorem dX4_takeLetter_12 : decode cX4_takeLetter 12 = .ok (.if_icmp .ge 16, 3) := by decide +kernel
theorem dX4_takeLetter_15 : decode cX4_takeLetter 15 = .ok (.aload_n 0, 1) := by decide +kernel
theorem dX4_takeLetter_16 : decode cX4_takeLetter 16 = .ok (.getfield 9, 3) := by decide +kernel
theorem dX4_takeLetter_19 : decode cX4_takeLetter 19 = .ok (.aload_n 0, 1) := by decide +kernel
theorem dX4_takeLetter_20 : decode cX4_takeLetter 20 = .ok (.getfield 36, 3) := by decide +kernel
theorem dX4_takeLetter_23 : decode cX4_takeLetter 23 = .ok (.caload, 1) := by decide +kernel
theorem dX4_takeLetter_24 : decode cX4_takeLetter 24 = .ok (.iload_n 1, 1) := by decide +kernel
theorem dX4_takeLetter_25 : decode cX4_takeLetter 25 = .ok (.if_icmp .eq 5, 3) := by decide +kernel
theorem dX4_takeLetter_28 : decode cX4_takeLetter 28 = .ok (.iconst 0, 1) := by decide +kernel
theorem dX4_takeLetter_29 : decode cX4_takeLetter 29 = .ok (.ireturn, 1) := by decide +kernel
theorem dX4_takeLetter_30 : decode cX4_takeLetter 30 = .ok (.aload_n 0, 1) := by decide +kernel
theorem dX4_takeLetter_31 : decode cX4_takeLetter 31 = .ok (.dup, 1) := by decide +kernel
theorem dX4_takeLetter_32 : decode cX4_takeLetter 32 = .ok (.getfield 36, 3) := by decide +kernel
theorem dX4_takeLetter_35 : decode cX4_takeLetter 35 = .ok (.iconst 1, 1) := by decide +kernel
theorem dX4_takeLetter_36 : decode cX4_takeLetter 36 = .ok (.iadd, 1) := by decide +kernel
theorem dX4_takeLetter_37 : decode cX4_takeLetter 37 = .ok (.putfield 36, 3) := by decide +kernel
theorem dX4_takeLetter_40 : decode cX4_takeLetter 40 = .ok (.iconst 1, 1) := by decide +kernel
theorem dX4_takeLetter_41 : decode cX4_takeLetter 41 = .ok (.ireturn, 1) := by decide +kernel
theorem dX4_skipBlanks_0 : decode cX4_skipBlanks 0 = .ok (.aload_n 0, 1) := by decide +kernel
theorem dX4_skipBlanks_1 : decode cX4_skipBlanks 1 = .ok (.getfield 36, 3) := by decide +kernel
theorem dX4_skipBlanks_4 : decode cX4_skipBlanks 4 = .ok (.aload_n 0, 1) := by decide +kernel
theorem dX4_skipBlanks_5 : decode cX4_skipBlanks 5 = .ok (.getfield 29, 3) := by decide +kernel
theorem dX4_skipBlanks_8 : decode cX4_skipBlanks 8 = .ok (.if_icmp .ge 30, 3) := by decide +kernel
theorem dX4_skipBlanks_11 : decode cX4_skipBlanks 11 = .ok (.aload_n 0, 1) := by decide +kernel
theorem dX4_skipBlanks_12 : decode cX4_skipBlanks 12 = .ok (.getfield 9, 3) := by decide +kernel
theorem dX4_skipBlanks_15 : decode cX4_skipBlanks 15 = .ok (.aload_n 0, 1) := by decide +kernel
theorem dX4_skipBlanks_16 : decode cX4_skipBlanks 16 = .ok (.getfield 36, 3) := by decide +kernel
theorem dX4_skipBlanks_19 : decode cX4_skipBlanks 19 = .ok (.caload, 1) := by decide +kernel
theorem dX4_skipBlanks_20 : decode cX4_skipBlanks 20 = .ok (.bipush 32, 2) := by decide +kernel
theorem dX4_skipBlanks_22 : decode cX4_skipBlanks 22 = .ok (.if_icmp .ne 16, 3) := by decide +kernel
theorem dX4_skipBlanks_25 : decode cX4_skipBlanks 25 = .ok (.aload_n 0, 1) := by decide +kernel
theorem dX4_skipBlanks_26 : decode cX4_skipBlanks 26 = .ok (.dup, 1) := by decide +kernel
theorem dX4_skipBlanks_27 : decode cX4_skipBlanks 27 = .ok (.getfield 36, 3) := by decide +kernel
theorem dX4_skipBlanks_30 : decode cX4_skipBlanks 30 = .ok (.iconst 1, 1) := by decide +kernel
theorem dX4_skipBlanks_31 : decode cX4_skipBlanks 31 = .ok (.iadd, 1) := by decide +kernel
theorem dX4_skipBlanks_32 : decode cX4_skipBlanks 32 = .ok (.putfield 36, 3) := by decide +kernel
theorem dX4_skipBlanks_35 : decode cX4_skipBlanks 35 = .ok (.goto (-35), 3) := by decide +kernel
theorem dX4_skipBlanks_38 : decode cX4_skipBlanks 38 = .ok (.return_, 1) := by decide +kernel
theorem dX4_digitStandsHere_0 : decode cX4_digitStandsHere 0 = .ok (.aload_n 0, 1) := by decide +kernel
theorem dX4_digitStandsHere_1 : decode cX4_digitStandsHere 1 = .ok (.getfield 36, 3) := by decide +kernel
theorem dX4_digitStandsHere_4 : decode cX4_digitStandsHere 4 = .ok (.aload_n 0, 1) := by decide +kernel
theorem dX4_digitStandsHere_5 : decode cX4_digitStandsHere 5 = .ok (.getfield 29, 3) := by decide +kernel
theorem dX4_digitStandsHere_8 : decode cX4_digitStandsHere 8 = .ok (.if_icmp .ge 35, 3) := by decide +kernel
theorem dX4_digitStandsHere_11 : decode cX4_digitStandsHere 11 = .ok (.aload_n 0, 1) := by decide +kernel
theorem dX4_digitStandsHere_12 : decode cX4_digitStandsHere 12 = .ok (.getfield 9, 3) := by decide +kernel
theorem dX4_digitStandsHere_15 : decode cX4_digitStandsHere 15 = .ok (.aload_n 0, 1) := by decide +kernel
theorem dX4_digitStandsHere_16 : decode cX4_digitStandsHere 16 = .ok (.getfield 36, 3) := by decide +kernel
theorem dX4_digitStandsHere_19 : decode cX4_digitStandsHere 19 = .ok (.caload, 1) := by decide +kernel
theorem dX4_digitStandsHere_20 : decode cX4_digitStandsHere 20 = .ok (.bipush 48, 2) := by decide +kernel
theorem dX4_digitStandsHere_22 : decode cX4_digitStandsHere 22 = .ok (.if_icmp .lt 21, 3) := by decide +kernel
theorem dX4_digitStandsHere_25 : decode cX4_digitStandsHere 25 = .ok (.aload_n 0, 1) := by decide +kernel
theorem dX4_digitStandsHere_26 : decode cX4_digitStandsHere 26 = .ok (.getfield 9, 3) := by decide +kernel
theorem dX4_digitStandsHere_29 : decode cX4_digitStandsHere 29 = .ok (.aload_n 0, 1) := by decide +kernel
theorem dX4_digitStandsHere_30 : decode cX4_digitStandsHere 30 = .ok (.getfield 36, 3) := by decide +kernel
theorem dX4_digitStandsHere_33 : decode cX4_digitStandsHere 33 = .ok (.caload, 1) := by decide +kernel
theorem dX4_digitStandsHere_34 : decode cX4_digitStandsHere 34 = .ok (.bipush 57, 2) := by decide +kernel
theorem dX4_digitStandsHere_36 : decode cX4_digitStandsHere 36 = .ok (.if_icmp .gt 7, 3) := by decide +kernel
theorem dX4_digitStandsHere_39 : decode cX4_digitStandsHere 39 = .ok (.iconst 1, 1) := by decide +kernel
theorem dX4_digitStandsHere_40 : decode cX4_digitStandsHere 40 = .ok (.goto 4, 3) := by decide +kernel
theorem dX4_digitStandsHere_43 : decode cX4_digitStandsHere 43 = .ok (.iconst 0, 1) := by decide +kernel
theorem dX4_digitStandsHere_44 : decode cX4_digitStandsHere 44 = .ok (.ireturn, 1) := by decide +kernel
theorem dX5_init_0 : decode cX5_init 0 = .ok (.aload_n 0, 1) := by decide +kernel
theorem dX5_init_1 : decode cX5_init 1 = .ok (.invokespecial 3, 3) := by decide +kernel
theorem dX5_init_4 : decode cX5_init 4 = .ok (.aload_n 0, 1) := by decide +kernel
theorem dX5_init_5 : decode cX5_init 5 = .ok (.bipush 8, 2) := by decide +kernel
theorem dX5_init_7 : decode cX5_init 7 = .ok (.newarray .int, 2) := by decide +kernel
theorem dX5_init_9 : decode cX5_init 9 = .ok (.putfield 9, 3) := by decide +kernel
theorem dX5_init_12 : decode cX5_init 12 = .ok (.aload_n 0, 1) := by decide +kernel
theorem dX5_init_13 : decode cX5_init 13 = .ok (.iconst 0, 1) := by decide +kernel
theorem dX5_init_14 : decode cX5_init 14 = .ok (.putfield 15, 3) := by decide +kernel
theorem dX5_init_17 : decode cX5_init 17 = .ok (.return_, 1) := by decide +kernel
theorem dX5_become_0 : decode cX5_become 0 = .ok (.aload_n 0, 1) := by decide +kernel
theorem dX5_become_1 : decode cX5_become 1 = .ok (.aload_n 1, 1) := by decide +kernel
theorem dX5_become_2 : decode cX5_become 2 = .ok (.getfield 15, 3) := by decide +kernel
theorem dX5_become_5 : decode cX5_become 5 = .ok (.putfield 15, 3) := by decide +kernel
theorem dX5_become_8 : decode cX5_become 8 = .ok (.aload_n 1, 1) := by decide +kernel
theorem dX5_become_9 : decode cX5_become 9 = .ok (.getfield 9, 3) := by decide +kernel
theorem dX5_become_12 : decode cX5_become 12 = .ok (.iconst 0, 1) := by decide +kernel
theorem dX5_become_13 : decode cX5_become 13 = .ok (.aload_n 0, 1) := by decide +kernel
theorem dX5_become_14 : decode cX5_become 14 = .ok (.getfield 9, 3) := by decide +kernel
theorem dX5_become_17 : decode cX5_become 17 = .ok (.iconst 0, 1) := by decide +kernel
theorem dX5_become_18 : decode cX5_become 18 = .ok (.bipush 8, 2) := by decide +kernel
theorem dX5_become_20 : decode cX5_become 20 = .ok (.invokestatic 19, 3) := by decide +kernel
theorem dX5_become_23 : decode cX5_become 23 = .ok (.return_, 1) := by decide +kernel
theorem dX5_append_0 : decode cX5_append 0 = .ok (.aload_n 0, 1) := by decide +kernel
theorem dX5_append_1 : decode cX5_append 1 = .ok (.getfield 15, 3) := by decide +kernel
theorem dX5_append_4 : decode cX5_append 4 = .ok (.bipush 8, 2) := by decide +kernel
theorem dX5_append_6 : decode cX5_append 6 = .ok (.if_icmp .ge 23, 3) := by decide +kernel
theorem dX5_append_9 : decode cX5_append 9 = .ok (.aload_n 0, 1) := by decide +kernel
theorem dX5_append_10 : decode cX5_append 10 = .ok (.getfield 9, 3) := by decide +kernel
theorem dX5_append_13 : decode cX5_append 13 = .ok (.aload_n 0, 1) := by decide +kernel
theorem dX5_append_14 : decode cX5_append 14 = .ok (.getfield 15, 3) := by decide +kernel
theorem dX5_append_17 : decode cX5_append 17 = .ok (.iload_n 1, 1) := by decide +kernel
theorem dX5_append_18 : decode cX5_append 18 = .ok (.iastore, 1) := by decide +kernel
theorem dX5_append_19 : decode cX5_append 19 = .ok (.aload_n 0, 1) := by decide +kernel
theorem dX5_append_20 : decode cX5_append 20 = .ok (.dup, 1) := by decide +kernel
theorem dX5_append_21 : decode cX5_append 21 = .ok (.getfield 15, 3) := by decide +kernel
theorem dX5_append_24 : decode cX5_append 24 = .ok (.iconst 1, 1) := by decide +kernel
theorem dX5_append_25 : decode cX5_append 25 = .ok (.iadd, 1) := by decide +kernel
theorem dX5_append_26 : decode cX5_append 26 = .ok (.putfield 15, 3) := by decide +kernel
theorem dX5_append_29 : decode cX5_append 29 = .ok (.return_, 1) := by decide +kernel
theorem dX5_inYear_0 : decode cX5_inYear 0 = .ok (.aload_n 0, 1) := by decide +kernel
theorem dX5_inYear_1 : decode cX5_inYear 1 = .ok (.getfield 15, 3) := by decide +kernel
theorem dX5_inYear_4 : decode cX5_inYear 4 = .ok (.ifCond .ne 7, 3) := by decide +kernel
theorem dX5_inYear_7 : decode cX5_inYear 7 = .ok (.iconst 0, 1) := by decide +kernel
theorem dX5_inYear_8 : decode cX5_inYear 8 = .ok (.goto 14, 3) := by decide +kernel
theorem dX5_inYear_11 : decode cX5_inYear 11 = .ok (.aload_n 0, 1) := by decide +kernel
theorem dX5_inYear_12 : decode cX5_inYear 12 = .ok (.getfield 9, 3) := by decide +kernel
theorem dX5_inYear_15 : decode cX5_inYear 15 = .ok (.iload_n 1, 1) := by decide +kernel
theorem dX5_inYear_16 : decode cX5_inYear 16 = .ok (.aload_n 0, 1) := by decide +kernel
theorem dX5_inYear_17 : decode cX5_inYear 17 = .ok (.getfield 15, 3) := by decide +kernel
theorem dX5_inYear_20 : decode cX5_inYear 20 = .ok (.irem, 1) := by decide +kernel
theorem dX5_inYear_21 : decode cX5_inYear 21 = .ok (.iaload, 1) := by decide +kernel
theorem dX5_inYear_22 : decode cX5_inYear 22 = .ok (.ireturn, 1) := by decide +kernel
set_option maxRecDepth 20000 in
theorem ggX6_init_X1_init : GoodIn wsX6_init wsX1_init := goodIn_r _ [28, 29, 2, 3, 30, 31, 32, 33, 34, 35, 10, 11, 36, 37, 38, 39, 40, 41, 42, 43, 44, 45, 46, 47, 48, 49, 50, 51, 52, 53, 54, 55, 56, 86, 87, 88, 89, 90, 91, 123, 124, 99, 100, 101, 102, 103, 104, 105, 106] (by decide +kernel) (by decide +kernel)
set_option maxRecDepth 20000 in
theorem gX6_init_X1_init : GoodIn wsX6_init (wsX1_init) := ggX6_init_X1_init
set_option maxRecDepth 20000 in
theorem ggX6_init_X0_init : GoodIn wsX6_init wsX0_init := goodIn_r _ [47, 48, 2, 3, 43, 49, 50, 51, 52, 53, 54, 55, 56, 99, 100, 101, 102, 103, 104, 105, 106] (by decide +kernel) (by decide +kernel)
set_option maxRecDepth 20000 in
theorem gX6_init_X0_init_n21 : GoodIn wsX6_init (wsX0_init) := ggX6_init_X0_init
set_option maxRecDepth 20000 in
theorem ggX6_init_X2_init : GoodIn wsX6_init wsX2_init := goodIn_r _ [58, 59, 2, 3, 43, 60, 61, 62, 63, 64, 107, 108, 109, 110, 111] (by decide +kernel) (by decide +kernel)
set_option maxRecDepth 20000 in
theorem gX6_init_X2_init_n28 : GoodIn wsX6_init (wsX2_init) := ggX6_init_X2_init
set_option maxRecDepth 20000 in
theorem ggX6_init_X4_init : GoodIn wsX6_init wsX4_init := goodIn_r _ [66, 67, 2, 3, 68, 69, 70, 32, 33, 71, 72, 10, 11, 73, 74, 75, 76, 77, 40, 41, 42, 43, 44, 45, 46, 47, 48, 49, 50, 51, 52, 53, 54, 55, 56, 112, 113, 114, 115, 116, 117, 118, 123, 124, 99, 100, 101, 102, 103, 104, 105, 106] (by decide +kernel) (by decide +kernel)
set_option maxRecDepth 20000 in
theorem gX6_init_X4_init_n35 : GoodIn wsX6_init (wsX4_init) := ggX6_init_X4_init
set_option maxRecDepth 20000 in
theorem ggX6_init_X3_init : GoodIn wsX6_init wsX3_init := goodIn_r _ [79, 80, 2, 3, 81, 82, 83, 84, 85, 119, 120, 121, 122] (by decide +kernel) (by decide +kernel)
set_option maxRecDepth 20000 in
theorem gX6_init_X3_init_n50 : GoodIn wsX6_init (wsX3_init) := ggX6_init_X3_init
