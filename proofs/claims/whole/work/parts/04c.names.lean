set_option maxRecDepth 20000 in
theorem ggX2_put_X2_learnSources : GoodIn wsX2_put wsX2_learnSources := goodIn_r _ [11, 12, 13, 14, 15, 16, 4, 17, 18, 19, 20, 21, 22, 6, 23, 24, 25, 26, 27] (by decide +kernel) (by decide +kernel)
set_option maxRecDepth 20000 in
theorem gX2_put_X2_learnSources : GoodIn wsX2_put (wsV RX2 34 RX2 yX2_learnSources wsX2_learnSources) := goodIn_app (goodIn_of _ (by decide +kernel)) ggX2_put_X2_learnSources
theorem dX2_put_0 : decode cX2_put 0 = .ok (.aload_n 0, 1) := by decide +kernel
theorem dX2_put_1 : decode cX2_put 1 = .ok (.iload_n 1, 1) := by decide +kernel
theorem dX2_put_2 : decode cX2_put 2 = .ok (.iload_n 2, 1) := by decide +kernel
theorem dX2_put_3 : decode cX2_put 3 = .ok (.iload_n 3, 1) := by decide +kernel
theorem dX2_put_4 : decode cX2_put 4 = .ok (.invokevirtual 30, 3) := by decide +kernel
theorem dX2_put_7 : decode cX2_put 7 = .ok (.aload_n 0, 1) := by decide +kernel
theorem dX2_put_8 : decode cX2_put 8 = .ok (.iload_n 2, 1) := by decide +kernel
theorem dX2_put_9 : decode cX2_put 9 = .ok (.invokevirtual 34, 3) := by decide +kernel
theorem dX2_put_12 : decode cX2_put 12 = .ok (.return_, 1) := by decide +kernel
set_option maxRecDepth 20000 in
theorem ggX2_move_X2_setEnd : GoodIn wsX2_move wsX2_setEnd := goodIn_r _ [7, 2, 8, 23, 24, 25, 26, 27] (by decide +kernel) (by decide +kernel)
set_option maxRecDepth 20000 in
theorem gX2_move_X2_setEnd : GoodIn wsX2_move (wsV RX2 30 RX2 yX2_setEnd wsX2_setEnd) := goodIn_app (goodIn_of _ (by decide +kernel)) ggX2_move_X2_setEnd
set_option maxRecDepth 20000 in
theorem ggX2_move_X2_learnSources : GoodIn wsX2_move wsX2_learnSources := goodIn_r _ [12, 13, 14, 15, 16, 17, 6, 18, 19, 20, 21, 22, 1, 2, 23, 24, 25, 26, 27] (by decide +kernel) (by decide +kernel)
set_option maxRecDepth 20000 in
theorem gX2_move_X2_learnSources : GoodIn wsX2_move (wsV RX2 34 RX2 yX2_learnSources wsX2_learnSources) := goodIn_app (goodIn_of _ (by decide +kernel)) ggX2_move_X2_learnSources
theorem dX2_move_0 : decode cX2_move 0 = .ok (.iconst 0, 1) := by decide +kernel
theorem dX2_move_1 : decode cX2_move 1 = .ok (.istore_n 3, 1) := by decide +kernel
theorem dX2_move_2 : decode cX2_move 2 = .ok (.iload_n 3, 1) := by decide +kernel
theorem dX2_move_3 : decode cX2_move 3 = .ok (.aload_n 0, 1) := by decide +kernel
theorem dX2_move_4 : decode cX2_move 4 = .ok (.getfield 9, 3) := by decide +kernel
theorem dX2_move_7 : decode cX2_move 7 = .ok (.if_icmp .ge 40, 3) := by decide +kernel
theorem dX2_move_10 : decode cX2_move 10 = .ok (.aload_n 0, 1) := by decide +kernel
theorem dX2_move_11 : decode cX2_move 11 = .ok (.getfield 17, 3) := by decide +kernel
theorem dX2_move_14 : decode cX2_move 14 = .ok (.iload_n 1, 1) := by decide +kernel
theorem dX2_move_15 : decode cX2_move 15 = .ok (.aaload, 1) := by decide +kernel
theorem dX2_move_16 : decode cX2_move 16 = .ok (.iload_n 3, 1) := by decide +kernel
theorem dX2_move_17 : decode cX2_move 17 = .ok (.iaload, 1) := by decide +kernel
theorem dX2_move_18 : decode cX2_move 18 = .ok (.istore 4, 2) := by decide +kernel
theorem dX2_move_20 : decode cX2_move 20 = .ok (.iload 4, 2) := by decide +kernel
theorem dX2_move_22 : decode cX2_move 22 = .ok (.iconst (-1), 1) := by decide +kernel
theorem dX2_move_23 : decode cX2_move 23 = .ok (.if_icmp .eq 18, 3) := by decide +kernel
theorem dX2_move_26 : decode cX2_move 26 = .ok (.aload_n 0, 1) := by decide +kernel
theorem dX2_move_27 : decode cX2_move 27 = .ok (.iload_n 3, 1) := by decide +kernel
theorem dX2_move_28 : decode cX2_move 28 = .ok (.iload_n 2, 1) := by decide +kernel
theorem dX2_move_29 : decode cX2_move 29 = .ok (.iload 4, 2) := by decide +kernel
theorem dX2_move_31 : decode cX2_move 31 = .ok (.invokevirtual 30, 3) := by decide +kernel
theorem dX2_move_34 : decode cX2_move 34 = .ok (.aload_n 0, 1) := by decide +kernel
theorem dX2_move_35 : decode cX2_move 35 = .ok (.iload_n 3, 1) := by decide +kernel
theorem dX2_move_36 : decode cX2_move 36 = .ok (.iload_n 1, 1) := by decide +kernel
theorem dX2_move_37 : decode cX2_move 37 = .ok (.iconst (-1), 1) := by decide +kernel
theorem dX2_move_38 : decode cX2_move 38 = .ok (.invokevirtual 30, 3) := by decide +kernel
theorem dX2_move_41 : decode cX2_move 41 = .ok (.iinc 3 1, 3) := by decide +kernel
theorem dX2_move_44 : decode cX2_move 44 = .ok (.goto (-42), 3) := by decide +kernel
theorem dX2_move_47 : decode cX2_move 47 = .ok (.aload_n 0, 1) := by decide +kernel
theorem dX2_move_48 : decode cX2_move 48 = .ok (.iload_n 1, 1) := by decide +kernel
theorem dX2_move_49 : decode cX2_move 49 = .ok (.invokevirtual 34, 3) := by decide +kernel
theorem dX2_move_52 : decode cX2_move 52 = .ok (.aload_n 0, 1) := by decide +kernel
theorem dX2_move_53 : decode cX2_move 53 = .ok (.iload_n 2, 1) := by decide +kernel
theorem dX2_move_54 : decode cX2_move 54 = .ok (.invokevirtual 34, 3) := by decide +kernel
theorem dX2_move_57 : decode cX2_move 57 = .ok (.return_, 1) := by decide +kernel
theorem dX2_setEnd_0 : decode cX2_setEnd 0 = .ok (.aload_n 0, 1) := by decide +kernel
theorem dX2_setEnd_1 : decode cX2_setEnd 1 = .ok (.getfield 17, 3) := by decide +kernel
theorem dX2_setEnd_4 : decode cX2_setEnd 4 = .ok (.iload_n 2, 1) := by decide +kernel
theorem dX2_setEnd_5 : decode cX2_setEnd 5 = .ok (.aaload, 1) := by decide +kernel
theorem dX2_setEnd_6 : decode cX2_setEnd 6 = .ok (.iload_n 1, 1) := by decide +kernel
theorem dX2_setEnd_7 : decode cX2_setEnd 7 = .ok (.iload_n 3, 1) := by decide +kernel
theorem dX2_setEnd_8 : decode cX2_setEnd 8 = .ok (.iastore, 1) := by decide +kernel
theorem dX2_setEnd_9 : decode cX2_setEnd 9 = .ok (.iconst 1, 1) := by decide +kernel
theorem dX2_setEnd_10 : decode cX2_setEnd 10 = .ok (.iload_n 1, 1) := by decide +kernel
theorem dX2_setEnd_11 : decode cX2_setEnd 11 = .ok (.ishl, 1) := by decide +kernel
theorem dX2_setEnd_12 : decode cX2_setEnd 12 = .ok (.istore 4, 2) := by decide +kernel
theorem dX2_setEnd_14 : decode cX2_setEnd 14 = .ok (.aload_n 0, 1) := by decide +kernel
theorem dX2_setEnd_15 : decode cX2_setEnd 15 = .ok (.getfield 20, 3) := by decide +kernel
theorem dX2_setEnd_18 : decode cX2_setEnd 18 = .ok (.iload_n 2, 1) := by decide +kernel
theorem dX2_setEnd_19 : decode cX2_setEnd 19 = .ok (.iload_n 3, 1) := by decide +kernel
theorem dX2_setEnd_20 : decode cX2_setEnd 20 = .ok (.iconst (-1), 1) := by decide +kernel
theorem dX2_setEnd_21 : decode cX2_setEnd 21 = .ok (.if_icmp .ne 17, 3) := by decide +kernel
theorem dX2_setEnd_24 : decode cX2_setEnd 24 = .ok (.aload_n 0, 1) := by decide +kernel
theorem dX2_setEnd_25 : decode cX2_setEnd 25 = .ok (.getfield 20, 3) := by decide +kernel
theorem dX2_setEnd_28 : decode cX2_setEnd 28 = .ok (.iload_n 2, 1) := by decide +kernel
theorem dX2_setEnd_29 : decode cX2_setEnd 29 = .ok (.iaload, 1) := by decide +kernel
theorem dX2_setEnd_30 : decode cX2_setEnd 30 = .ok (.iload 4, 2) := by decide +kernel
theorem dX2_setEnd_32 : decode cX2_setEnd 32 = .ok (.iconst (-1), 1) := by decide +kernel
theorem dX2_setEnd_33 : decode cX2_setEnd 33 = .ok (.ixor, 1) := by decide +kernel
theorem dX2_setEnd_34 : decode cX2_setEnd 34 = .ok (.iand, 1) := by decide +kernel
theorem dX2_setEnd_35 : decode cX2_setEnd 35 = .ok (.goto 12, 3) := by decide +kernel
theorem dX2_setEnd_38 : decode cX2_setEnd 38 = .ok (.aload_n 0, 1) := by decide +kernel
theorem dX2_setEnd_39 : decode cX2_setEnd 39 = .ok (.getfield 20, 3) := by decide +kernel
theorem dX2_setEnd_42 : decode cX2_setEnd 42 = .ok (.iload_n 2, 1) := by decide +kernel
theorem dX2_setEnd_43 : decode cX2_setEnd 43 = .ok (.iaload, 1) := by decide +kernel
theorem dX2_setEnd_44 : decode cX2_setEnd 44 = .ok (.iload 4, 2) := by decide +kernel
theorem dX2_setEnd_46 : decode cX2_setEnd 46 = .ok (.ior, 1) := by decide +kernel
theorem dX2_setEnd_47 : decode cX2_setEnd 47 = .ok (.iastore, 1) := by decide +kernel
theorem dX2_setEnd_48 : decode cX2_setEnd 48 = .ok (.return_, 1) := by decide +kernel
set_option maxRecDepth 20000 in
theorem ggX2_learnSources_X2_learnHalf : GoodIn wsX2_learnSources wsX2_learnHalf := goodIn_r _ [7, 8, 9, 10, 6, 11, 12, 13, 14, 15, 16, 17, 18] (by decide +kernel) (by decide +kernel)
set_option maxRecDepth 20000 in
theorem gX2_learnSources_X2_learnHalf : GoodIn wsX2_learnSources (wsV RX2 38 RX2 yX2_learnHalf wsX2_learnHalf) := goodIn_app (goodIn_of _ (by decide +kernel)) ggX2_learnSources_X2_learnHalf
theorem dX2_learnSources_0 : decode cX2_learnSources 0 = .ok (.aload_n 0, 1) := by decide +kernel
theorem dX2_learnSources_1 : decode cX2_learnSources 1 = .ok (.iload_n 1, 1) := by decide +kernel
theorem dX2_learnSources_2 : decode cX2_learnSources 2 = .ok (.iconst 0, 1) := by decide +kernel
theorem dX2_learnSources_3 : decode cX2_learnSources 3 = .ok (.aload_n 0, 1) := by decide +kernel
theorem dX2_learnSources_4 : decode cX2_learnSources 4 = .ok (.getfield 24, 3) := by decide +kernel
theorem dX2_learnSources_7 : decode cX2_learnSources 7 = .ok (.iload_n 1, 1) := by decide +kernel
theorem dX2_learnSources_8 : decode cX2_learnSources 8 = .ok (.aaload, 1) := by decide +kernel
theorem dX2_learnSources_9 : decode cX2_learnSources 9 = .ok (.invokevirtual 38, 3) := by decide +kernel
theorem dX2_learnSources_12 : decode cX2_learnSources 12 = .ok (.aload_n 0, 1) := by decide +kernel
theorem dX2_learnSources_13 : decode cX2_learnSources 13 = .ok (.iload_n 1, 1) := by decide +kernel
theorem dX2_learnSources_14 : decode cX2_learnSources 14 = .ok (.bipush 6, 2) := by decide +kernel
theorem dX2_learnSources_16 : decode cX2_learnSources 16 = .ok (.aload_n 0, 1) := by decide +kernel
theorem dX2_learnSources_17 : decode cX2_learnSources 17 = .ok (.getfield 27, 3) := by decide +kernel
theorem dX2_learnSources_20 : decode cX2_learnSources 20 = .ok (.iload_n 1, 1) := by decide +kernel
theorem dX2_learnSources_21 : decode cX2_learnSources 21 = .ok (.aaload, 1) := by decide +kernel
theorem dX2_learnSources_22 : decode cX2_learnSources 22 = .ok (.invokevirtual 38, 3) := by decide +kernel
theorem dX2_learnSources_25 : decode cX2_learnSources 25 = .ok (.return_, 1) := by decide +kernel
set_option maxRecDepth 20000 in
theorem ggX2_learnHalf_X2_beginsOfStepsTo : GoodIn wsX2_learnHalf wsX2_beginsOfStepsTo := goodIn_r _ [5, 6, 7, 8, 9, 10, 11, 12] (by decide +kernel) (by decide +kernel)
set_option maxRecDepth 20000 in
theorem gX2_learnHalf_X2_beginsOfStepsTo : GoodIn wsX2_learnHalf (wsV RX2 42 RX2 yX2_beginsOfStepsTo wsX2_beginsOfStepsTo) := goodIn_app (goodIn_of _ (by decide +kernel)) ggX2_learnHalf_X2_beginsOfStepsTo
theorem dX2_learnHalf_0 : decode cX2_learnHalf 0 = .ok (.iconst 0, 1) := by decide +kernel
theorem dX2_learnHalf_1 : decode cX2_learnHalf 1 = .ok (.istore 4, 2) := by decide +kernel
theorem dX2_learnHalf_3 : decode cX2_learnHalf 3 = .ok (.iload 4, 2) := by decide +kernel
theorem dX2_learnHalf_5 : decode cX2_learnHalf 5 = .ok (.bipush 6, 2) := by decide +kernel
theorem dX2_learnHalf_7 : decode cX2_learnHalf 7 = .ok (.if_icmp .ge 56, 3) := by decide +kernel
theorem dX2_learnHalf_10 : decode cX2_learnHalf 10 = .ok (.aload_n 0, 1) := by decide +kernel
theorem dX2_learnHalf_11 : decode cX2_learnHalf 11 = .ok (.iload_n 2, 1) := by decide +kernel
theorem dX2_learnHalf_12 : decode cX2_learnHalf 12 = .ok (.iload 4, 2) := by decide +kernel
theorem dX2_learnHalf_14 : decode cX2_learnHalf 14 = .ok (.iadd, 1) := by decide +kernel
theorem dX2_learnHalf_15 : decode cX2_learnHalf 15 = .ok (.iload_n 1, 1) := by decide +kernel
theorem dX2_learnHalf_16 : decode cX2_learnHalf 16 = .ok (.invokevirtual 42, 3) := by decide +kernel
theorem dX2_learnHalf_19 : decode cX2_learnHalf 19 = .ok (.istore 5, 2) := by decide +kernel
theorem dX2_learnHalf_21 : decode cX2_learnHalf 21 = .ok (.iconst 1, 1) := by decide +kernel
theorem dX2_learnHalf_22 : decode cX2_learnHalf 22 = .ok (.iload 4, 2) := by decide +kernel
theorem dX2_learnHalf_24 : decode cX2_learnHalf 24 = .ok (.ishl, 1) := by decide +kernel
theorem dX2_learnHalf_25 : decode cX2_learnHalf 25 = .ok (.istore 6, 2) := by decide +kernel
theorem dX2_learnHalf_27 : decode cX2_learnHalf 27 = .ok (.iconst 0, 1) := by decide +kernel
theorem dX2_learnHalf_28 : decode cX2_learnHalf 28 = .ok (.istore 7, 2) := by decide +kernel
theorem dX2_learnHalf_30 : decode cX2_learnHalf 30 = .ok (.iload 7, 2) := by decide +kernel
theorem dX2_learnHalf_32 : decode cX2_learnHalf 32 = .ok (.iload 6, 2) := by decide +kernel
theorem dX2_learnHalf_34 : decode cX2_learnHalf 34 = .ok (.if_icmp .ge 23, 3) := by decide +kernel
theorem dX2_learnHalf_37 : decode cX2_learnHalf 37 = .ok (.aload_n 3, 1) := by decide +kernel
theorem dX2_learnHalf_38 : decode cX2_learnHalf 38 = .ok (.iload 6, 2) := by decide +kernel
theorem dX2_learnHalf_40 : decode cX2_learnHalf 40 = .ok (.iload 7, 2) := by decide +kernel
theorem dX2_learnHalf_42 : decode cX2_learnHalf 42 = .ok (.ior, 1) := by decide +kernel
theorem dX2_learnHalf_43 : decode cX2_learnHalf 43 = .ok (.aload_n 3, 1) := by decide +kernel
theorem dX2_learnHalf_44 : decode cX2_learnHalf 44 = .ok (.iload 7, 2) := by decide +kernel
theorem dX2_learnHalf_46 : decode cX2_learnHalf 46 = .ok (.iaload, 1) := by decide +kernel
theorem dX2_learnHalf_47 : decode cX2_learnHalf 47 = .ok (.iload 5, 2) := by decide +kernel
theorem dX2_learnHalf_49 : decode cX2_learnHalf 49 = .ok (.ior, 1) := by decide +kernel
theorem dX2_learnHalf_50 : decode cX2_learnHalf 50 = .ok (.iastore, 1) := by decide +kernel
theorem dX2_learnHalf_51 : decode cX2_learnHalf 51 = .ok (.iinc 7 1, 3) := by decide +kernel
theorem dX2_learnHalf_54 : decode cX2_learnHalf 54 = .ok (.goto (-24), 3) := by decide +kernel
theorem dX2_learnHalf_57 : decode cX2_learnHalf 57 = .ok (.iinc 4 1, 3) := by decide +kernel
theorem dX2_learnHalf_60 : decode cX2_learnHalf 60 = .ok (.goto (-57), 3) := by decide +kernel
theorem dX2_learnHalf_63 : decode cX2_learnHalf 63 = .ok (.return_, 1) := by decide +kernel
theorem dX2_beginsOfStepsTo_0 : decode cX2_beginsOfStepsTo 0 = .ok (.iconst 0, 1) := by decide +kernel
theorem dX2_beginsOfStepsTo_1 : decode cX2_beginsOfStepsTo 1 = .ok (.istore_n 3, 1) := by decide +kernel
theorem dX2_beginsOfStepsTo_2 : decode cX2_beginsOfStepsTo 2 = .ok (.iconst 0, 1) := by decide +kernel
theorem dX2_beginsOfStepsTo_3 : decode cX2_beginsOfStepsTo 3 = .ok (.istore 4, 2) := by decide +kernel
theorem dX2_beginsOfStepsTo_5 : decode cX2_beginsOfStepsTo 5 = .ok (.iload 4, 2) := by decide +kernel
theorem dX2_beginsOfStepsTo_7 : decode cX2_beginsOfStepsTo 7 = .ok (.aload_n 0, 1) := by decide +kernel
theorem dX2_beginsOfStepsTo_8 : decode cX2_beginsOfStepsTo 8 = .ok (.getfield 9, 3) := by decide +kernel
theorem dX2_beginsOfStepsTo_11 : decode cX2_beginsOfStepsTo 11 = .ok (.if_icmp .ge 29, 3) := by decide +kernel
theorem dX2_beginsOfStepsTo_14 : decode cX2_beginsOfStepsTo 14 = .ok (.aload_n 0, 1) := by decide +kernel
theorem dX2_beginsOfStepsTo_15 : decode cX2_beginsOfStepsTo 15 = .ok (.getfield 17, 3) := by decide +kernel
theorem dX2_beginsOfStepsTo_18 : decode cX2_beginsOfStepsTo 18 = .ok (.iload_n 2, 1) := by decide +kernel
theorem dX2_beginsOfStepsTo_19 : decode cX2_beginsOfStepsTo 19 = .ok (.aaload, 1) := by decide +kernel
theorem dX2_beginsOfStepsTo_20 : decode cX2_beginsOfStepsTo 20 = .ok (.iload 4, 2) := by decide +kernel
theorem dX2_beginsOfStepsTo_22 : decode cX2_beginsOfStepsTo 22 = .ok (.iaload, 1) := by decide +kernel
theorem dX2_beginsOfStepsTo_23 : decode cX2_beginsOfStepsTo 23 = .ok (.iload_n 1, 1) := by decide +kernel
theorem dX2_beginsOfStepsTo_24 : decode cX2_beginsOfStepsTo 24 = .ok (.if_icmp .ne 10, 3) := by decide +kernel
theorem dX2_beginsOfStepsTo_27 : decode cX2_beginsOfStepsTo 27 = .ok (.iload_n 3, 1) := by decide +kernel
theorem dX2_beginsOfStepsTo_28 : decode cX2_beginsOfStepsTo 28 = .ok (.iconst 1, 1) := by decide +kernel
theorem dX2_beginsOfStepsTo_29 : decode cX2_beginsOfStepsTo 29 = .ok (.iload 4, 2) := by decide +kernel
theorem dX2_beginsOfStepsTo_31 : decode cX2_beginsOfStepsTo 31 = .ok (.ishl, 1) := by decide +kernel
theorem dX2_beginsOfStepsTo_32 : decode cX2_beginsOfStepsTo 32 = .ok (.ior, 1) := by decide +kernel
theorem dX2_beginsOfStepsTo_33 : decode cX2_beginsOfStepsTo 33 = .ok (.istore_n 3, 1) := by decide +kernel
theorem dX2_beginsOfStepsTo_34 : decode cX2_beginsOfStepsTo 34 = .ok (.iinc 4 1, 3) := by decide +kernel
theorem dX2_beginsOfStepsTo_37 : decode cX2_beginsOfStepsTo 37 = .ok (.goto (-32), 3) := by decide +kernel
theorem dX2_beginsOfStepsTo_40 : decode cX2_beginsOfStepsTo 40 = .ok (.iload_n 3, 1) := by decide +kernel
theorem dX2_beginsOfStepsTo_41 : decode cX2_beginsOfStepsTo 41 = .ok (.ireturn, 1) := by decide +kernel
theorem dX2_way_0 : decode cX2_way 0 = .ok (.aload_n 0, 1) := by decide +kernel
theorem dX2_way_1 : decode cX2_way 1 = .ok (.getfield 20, 3) := by decide +kernel
theorem dX2_way_4 : decode cX2_way 4 = .ok (.iload_n 2, 1) := by decide +kernel
theorem dX2_way_5 : decode cX2_way 5 = .ok (.iaload, 1) := by decide +kernel
theorem dX2_way_6 : decode cX2_way 6 = .ok (.istore_n 3, 1) := by decide +kernel
theorem dX2_way_7 : decode cX2_way 7 = .ok (.iload_n 3, 1) := by decide +kernel
theorem dX2_way_8 : decode cX2_way 8 = .ok (.iload_n 1, 1) := by decide +kernel
theorem dX2_way_9 : decode cX2_way 9 = .ok (.iand, 1) := by decide +kernel
theorem dX2_way_10 : decode cX2_way 10 = .ok (.istore 4, 2) := by decide +kernel
theorem dX2_way_12 : decode cX2_way 12 = .ok (.aload_n 0, 1) := by decide +kernel
theorem dX2_way_13 : decode cX2_way 13 = .ok (.getfield 24, 3) := by decide +kernel
theorem dX2_way_16 : decode cX2_way 16 = .ok (.iload_n 2, 1) := by decide +kernel
theorem dX2_way_17 : decode cX2_way 17 = .ok (.aaload, 1) := by decide +kernel
theorem dX2_way_18 : decode cX2_way 18 = .ok (.iload_n 1, 1) := by decide +kernel
theorem dX2_way_19 : decode cX2_way 19 = .ok (.bipush 63, 2) := by decide +kernel
theorem dX2_way_21 : decode cX2_way 21 = .ok (.iand, 1) := by decide +kernel
theorem dX2_way_22 : decode cX2_way 22 = .ok (.iaload, 1) := by decide +kernel
theorem dX2_way_23 : decode cX2_way 23 = .ok (.aload_n 0, 1) := by decide +kernel
theorem dX2_way_24 : decode cX2_way 24 = .ok (.getfield 27, 3) := by decide +kernel
theorem dX2_way_27 : decode cX2_way 27 = .ok (.iload_n 2, 1) := by decide +kernel
theorem dX2_way_28 : decode cX2_way 28 = .ok (.aaload, 1) := by decide +kernel
theorem dX2_way_29 : decode cX2_way 29 = .ok (.iload_n 1, 1) := by decide +kernel
theorem dX2_way_30 : decode cX2_way 30 = .ok (.bipush 6, 2) := by decide +kernel
theorem dX2_way_32 : decode cX2_way 32 = .ok (.ishr, 1) := by decide +kernel
theorem dX2_way_33 : decode cX2_way 33 = .ok (.bipush 63, 2) := by decide +kernel
theorem dX2_way_35 : decode cX2_way 35 = .ok (.iand, 1) := by decide +kernel
theorem dX2_way_36 : decode cX2_way 36 = .ok (.iaload, 1) := by decide +kernel
theorem dX2_way_37 : decode cX2_way 37 = .ok (.ior, 1) := by decide +kernel
theorem dX2_way_38 : decode cX2_way 38 = .ok (.istore 5, 2) := by decide +kernel
theorem dX2_way_40 : decode cX2_way 40 = .ok (.iload 4, 2) := by decide +kernel
theorem dX2_way_42 : decode cX2_way 42 = .ok (.iload 5, 2) := by decide +kernel
theorem dX2_way_44 : decode cX2_way 44 = .ok (.if_icmp .ne 5, 3) := by decide +kernel
theorem dX2_way_47 : decode cX2_way 47 = .ok (.iconst 0, 1) := by decide +kernel
theorem dX2_way_48 : decode cX2_way 48 = .ok (.ireturn, 1) := by decide +kernel
theorem dX2_way_49 : decode cX2_way 49 = .ok (.iload 4, 2) := by decide +kernel
theorem dX2_way_51 : decode cX2_way 51 = .ok (.ifCond .ne 11, 3) := by decide +kernel
theorem dX2_way_54 : decode cX2_way 54 = .ok (.iload 5, 2) := by decide +kernel
theorem dX2_way_56 : decode cX2_way 56 = .ok (.iload_n 3, 1) := by decide +kernel
theorem dX2_way_57 : decode cX2_way 57 = .ok (.if_icmp .ne 5, 3) := by decide +kernel
theorem dX2_way_60 : decode cX2_way 60 = .ok (.iconst 1, 1) := by decide +kernel
theorem dX2_way_61 : decode cX2_way 61 = .ok (.ireturn, 1) := by decide +kernel
theorem dX2_way_62 : decode cX2_way 62 = .ok (.iload 5, 2) := by decide +kernel
theorem dX2_way_64 : decode cX2_way 64 = .ok (.ifCond .ne 11, 3) := by decide +kernel
theorem dX2_way_67 : decode cX2_way 67 = .ok (.iload 4, 2) := by decide +kernel
theorem dX2_way_69 : decode cX2_way 69 = .ok (.iload_n 3, 1) := by decide +kernel
theorem dX2_way_70 : decode cX2_way 70 = .ok (.if_icmp .ne 5, 3) := by decide +kernel
theorem dX2_way_73 : decode cX2_way 73 = .ok (.iconst 2, 1) := by decide +kernel
theorem dX2_way_74 : decode cX2_way 74 = .ok (.ireturn, 1) := by decide +kernel
theorem dX2_way_75 : decode cX2_way 75 = .ok (.iconst 3, 1) := by decide +kernel
theorem dX2_way_76 : decode cX2_way 76 = .ok (.ireturn, 1) := by decide +kernel
set_option maxRecDepth 20000 in
theorem ggX2_firstMixed_X2_way : GoodIn wsX2_firstMixed wsX2_way := goodIn_r _ [5, 6, 7, 8, 9, 10, 11, 12, 13] (by decide +kernel) (by decide +kernel)
set_option maxRecDepth 20000 in
theorem gX2_firstMixed_X2_way : GoodIn wsX2_firstMixed (wsV RX2 46 RX2 yX2_way wsX2_way) := goodIn_app (goodIn_of _ (by decide +kernel)) ggX2_firstMixed_X2_way
theorem dX2_firstMixed_0 : decode cX2_firstMixed 0 = .ok (.iconst 0, 1) := by decide +kernel
theorem dX2_firstMixed_1 : decode cX2_firstMixed 1 = .ok (.istore_n 2, 1) := by decide +kernel
theorem dX2_firstMixed_2 : decode cX2_firstMixed 2 = .ok (.iload_n 2, 1) := by decide +kernel
theorem dX2_firstMixed_3 : decode cX2_firstMixed 3 = .ok (.bipush 6, 2) := by decide +kernel
theorem dX2_firstMixed_5 : decode cX2_firstMixed 5 = .ok (.if_icmp .ge 21, 3) := by decide +kernel
theorem dX2_firstMixed_8 : decode cX2_firstMixed 8 = .ok (.aload_n 0, 1) := by decide +kernel
theorem dX2_firstMixed_9 : decode cX2_firstMixed 9 = .ok (.iload_n 1, 1) := by decide +kernel
theorem dX2_firstMixed_10 : decode cX2_firstMixed 10 = .ok (.iload_n 2, 1) := by decide +kernel
theorem dX2_firstMixed_11 : decode cX2_firstMixed 11 = .ok (.invokevirtual 46, 3) := by decide +kernel
theorem dX2_firstMixed_14 : decode cX2_firstMixed 14 = .ok (.iconst 3, 1) := by decide +kernel
theorem dX2_firstMixed_15 : decode cX2_firstMixed 15 = .ok (.if_icmp .ne 5, 3) := by decide +kernel
theorem dX2_firstMixed_18 : decode cX2_firstMixed 18 = .ok (.iload_n 2, 1) := by decide +kernel
theorem dX2_firstMixed_19 : decode cX2_firstMixed 19 = .ok (.ireturn, 1) := by decide +kernel
theorem dX2_firstMixed_20 : decode cX2_firstMixed 20 = .ok (.iinc 2 1, 3) := by decide +kernel
theorem dX2_firstMixed_23 : decode cX2_firstMixed 23 = .ok (.goto (-21), 3) := by decide +kernel
theorem dX2_firstMixed_26 : decode cX2_firstMixed 26 = .ok (.iconst (-1), 1) := by decide +kernel
theorem dX2_firstMixed_27 : decode cX2_firstMixed 27 = .ok (.ireturn, 1) := by decide +kernel
set_option maxRecDepth 20000 in
theorem ggX2_grown_X2_firstMixed : GoodIn wsX2_grown wsX2_firstMixed := goodIn_r _ [5, 6, 7, 8, 4, 9, 10, 11, 12, 23, 24, 25, 26, 27] (by decide +kernel) (by decide +kernel)
set_option maxRecDepth 20000 in
theorem gX2_grown_X2_firstMixed : GoodIn wsX2_grown (wsV RX2 49 RX2 yX2_firstMixed wsX2_firstMixed) := goodIn_app (goodIn_of _ (by decide +kernel)) ggX2_grown_X2_firstMixed
set_option maxRecDepth 20000 in
theorem ggX2_grown_X2_growth : GoodIn wsX2_grown wsX2_growth := goodIn_r _ [16, 10, 17, 18, 19, 4, 20, 21, 22, 23, 24, 25, 26, 27] (by decide +kernel) (by decide +kernel)
set_option maxRecDepth 20000 in
theorem gX2_grown_X2_growth : GoodIn wsX2_grown (wsV RX2 53 RX2 yX2_growth wsX2_growth) := goodIn_app (goodIn_of _ (by decide +kernel)) ggX2_grown_X2_growth
theorem dX2_grown_0 : decode cX2_grown 0 = .ok (.iload_n 1, 1) := by decide +kernel
theorem dX2_grown_1 : decode cX2_grown 1 = .ok (.istore_n 2, 1) := by decide +kernel
theorem dX2_grown_2 : decode cX2_grown 2 = .ok (.iconst 0, 1) := by decide +kernel
theorem dX2_grown_3 : decode cX2_grown 3 = .ok (.istore_n 3, 1) := by decide +kernel
theorem dX2_grown_4 : decode cX2_grown 4 = .ok (.iload_n 3, 1) := by decide +kernel
theorem dX2_grown_5 : decode cX2_grown 5 = .ok (.bipush 12, 2) := by decide +kernel
theorem dX2_grown_7 : decode cX2_grown 7 = .ok (.if_icmp .ge 34, 3) := by decide +kernel
theorem dX2_grown_10 : decode cX2_grown 10 = .ok (.aload_n 0, 1) := by decide +kernel
theorem dX2_grown_11 : decode cX2_grown 11 = .ok (.iload_n 2, 1) := by decide +kernel
theorem dX2_grown_12 : decode cX2_grown 12 = .ok (.invokevirtual 49, 3) := by decide +kernel
theorem dX2_grown_15 : decode cX2_grown 15 = .ok (.istore 4, 2) := by decide +kernel
theorem dX2_grown_17 : decode cX2_grown 17 = .ok (.iload 4, 2) := by decide +kernel
theorem dX2_grown_19 : decode cX2_grown 19 = .ok (.iconst (-1), 1) := by decide +kernel
theorem dX2_grown_20 : decode cX2_grown 20 = .ok (.if_icmp .ne 5, 3) := by decide +kernel
theorem dX2_grown_23 : decode cX2_grown 23 = .ok (.iload_n 2, 1) := by decide +kernel
theorem dX2_grown_24 : decode cX2_grown 24 = .ok (.ireturn, 1) := by decide +kernel
theorem dX2_grown_25 : decode cX2_grown 25 = .ok (.iload_n 2, 1) := by decide +kernel
theorem dX2_grown_26 : decode cX2_grown 26 = .ok (.aload_n 0, 1) := by decide +kernel
theorem dX2_grown_27 : decode cX2_grown 27 = .ok (.iload_n 2, 1) := by decide +kernel
theorem dX2_grown_28 : decode cX2_grown 28 = .ok (.iload 4, 2) := by decide +kernel
theorem dX2_grown_30 : decode cX2_grown 30 = .ok (.invokevirtual 53, 3) := by decide +kernel
theorem dX2_grown_33 : decode cX2_grown 33 = .ok (.ior, 1) := by decide +kernel
theorem dX2_grown_34 : decode cX2_grown 34 = .ok (.istore_n 2, 1) := by decide +kernel
theorem dX2_grown_35 : decode cX2_grown 35 = .ok (.iinc 3 1, 3) := by decide +kernel
theorem dX2_grown_38 : decode cX2_grown 38 = .ok (.goto (-34), 3) := by decide +kernel
theorem dX2_grown_41 : decode cX2_grown 41 = .ok (.iload_n 2, 1) := by decide +kernel
theorem dX2_grown_42 : decode cX2_grown 42 = .ok (.ireturn, 1) := by decide +kernel
set_option maxRecDepth 20000 in
theorem ggX2_growth_X2_endsOf : GoodIn wsX2_growth wsX2_endsOf := goodIn_r _ [6, 7, 8, 9, 10, 11, 12, 13] (by decide +kernel) (by decide +kernel)
set_option maxRecDepth 20000 in
theorem gX2_growth_X2_endsOf : GoodIn wsX2_growth (wsV RX2 56 RX2 yX2_endsOf wsX2_endsOf) := goodIn_app (goodIn_of _ (by decide +kernel)) ggX2_growth_X2_endsOf
theorem dX2_growth_0 : decode cX2_growth 0 = .ok (.aload_n 0, 1) := by decide +kernel
theorem dX2_growth_1 : decode cX2_growth 1 = .ok (.getfield 20, 3) := by decide +kernel
theorem dX2_growth_4 : decode cX2_growth 4 = .ok (.iload_n 2, 1) := by decide +kernel
theorem dX2_growth_5 : decode cX2_growth 5 = .ok (.iaload, 1) := by decide +kernel
theorem dX2_growth_6 : decode cX2_growth 6 = .ok (.istore_n 3, 1) := by decide +kernel
theorem dX2_growth_7 : decode cX2_growth 7 = .ok (.aload_n 0, 1) := by decide +kernel
theorem dX2_growth_8 : decode cX2_growth 8 = .ok (.iload_n 2, 1) := by decide +kernel
theorem dX2_growth_9 : decode cX2_growth 9 = .ok (.invokevirtual 56, 3) := by decide +kernel
theorem dX2_growth_12 : decode cX2_growth 12 = .ok (.istore 4, 2) := by decide +kernel
theorem dX2_growth_14 : decode cX2_growth 14 = .ok (.iload_n 3, 1) := by decide +kernel
theorem dX2_growth_15 : decode cX2_growth 15 = .ok (.iload_n 1, 1) := by decide +kernel
theorem dX2_growth_16 : decode cX2_growth 16 = .ok (.iand, 1) := by decide +kernel
theorem dX2_growth_17 : decode cX2_growth 17 = .ok (.ifCond .eq 12, 3) := by decide +kernel
theorem dX2_growth_20 : decode cX2_growth 20 = .ok (.iload 4, 2) := by decide +kernel
theorem dX2_growth_22 : decode cX2_growth 22 = .ok (.iload_n 1, 1) := by decide +kernel
theorem dX2_growth_23 : decode cX2_growth 23 = .ok (.iand, 1) := by decide +kernel
theorem dX2_growth_24 : decode cX2_growth 24 = .ok (.ifCond .ne 5, 3) := by decide +kernel
theorem dX2_growth_27 : decode cX2_growth 27 = .ok (.iload_n 3, 1) := by decide +kernel
theorem dX2_growth_28 : decode cX2_growth 28 = .ok (.ireturn, 1) := by decide +kernel
theorem dX2_growth_29 : decode cX2_growth 29 = .ok (.iload 4, 2) := by decide +kernel
theorem dX2_growth_31 : decode cX2_growth 31 = .ok (.iload_n 1, 1) := by decide +kernel
theorem dX2_growth_32 : decode cX2_growth 32 = .ok (.iconst (-1), 1) := by decide +kernel
theorem dX2_growth_33 : decode cX2_growth 33 = .ok (.ixor, 1) := by decide +kernel
theorem dX2_growth_34 : decode cX2_growth 34 = .ok (.iand, 1) := by decide +kernel
theorem dX2_growth_35 : decode cX2_growth 35 = .ok (.ifCond .eq 8, 3) := by decide +kernel
theorem dX2_growth_38 : decode cX2_growth 38 = .ok (.iload 4, 2) := by decide +kernel
theorem dX2_growth_40 : decode cX2_growth 40 = .ok (.goto 4, 3) := by decide +kernel
theorem dX2_growth_43 : decode cX2_growth 43 = .ok (.iload_n 3, 1) := by decide +kernel
theorem dX2_growth_44 : decode cX2_growth 44 = .ok (.ireturn, 1) := by decide +kernel
theorem dX2_endsOf_0 : decode cX2_endsOf 0 = .ok (.iconst 0, 1) := by decide +kernel
theorem dX2_endsOf_1 : decode cX2_endsOf 1 = .ok (.istore_n 2, 1) := by decide +kernel
theorem dX2_endsOf_2 : decode cX2_endsOf 2 = .ok (.iconst 0, 1) := by decide +kernel
theorem dX2_endsOf_3 : decode cX2_endsOf 3 = .ok (.istore_n 3, 1) := by decide +kernel
theorem dX2_endsOf_4 : decode cX2_endsOf 4 = .ok (.iload_n 3, 1) := by decide +kernel
theorem dX2_endsOf_5 : decode cX2_endsOf 5 = .ok (.aload_n 0, 1) := by decide +kernel
theorem dX2_endsOf_6 : decode cX2_endsOf 6 = .ok (.getfield 9, 3) := by decide +kernel
theorem dX2_endsOf_9 : decode cX2_endsOf 9 = .ok (.if_icmp .ge 32, 3) := by decide +kernel
theorem dX2_endsOf_12 : decode cX2_endsOf 12 = .ok (.aload_n 0, 1) := by decide +kernel
theorem dX2_endsOf_13 : decode cX2_endsOf 13 = .ok (.getfield 17, 3) := by decide +kernel
theorem dX2_endsOf_16 : decode cX2_endsOf 16 = .ok (.iload_n 1, 1) := by decide +kernel
theorem dX2_endsOf_17 : decode cX2_endsOf 17 = .ok (.aaload, 1) := by decide +kernel
theorem dX2_endsOf_18 : decode cX2_endsOf 18 = .ok (.iload_n 3, 1) := by decide +kernel
theorem dX2_endsOf_19 : decode cX2_endsOf 19 = .ok (.iaload, 1) := by decide +kernel
theorem dX2_endsOf_20 : decode cX2_endsOf 20 = .ok (.istore 4, 2) := by decide +kernel
theorem dX2_endsOf_22 : decode cX2_endsOf 22 = .ok (.iload 4, 2) := by decide +kernel
theorem dX2_endsOf_24 : decode cX2_endsOf 24 = .ok (.iconst (-1), 1) := by decide +kernel
theorem dX2_endsOf_25 : decode cX2_endsOf 25 = .ok (.if_icmp .eq 10, 3) := by decide +kernel
theorem dX2_endsOf_28 : decode cX2_endsOf 28 = .ok (.iload_n 2, 1) := by decide +kernel
theorem dX2_endsOf_29 : decode cX2_endsOf 29 = .ok (.iconst 1, 1) := by decide +kernel
theorem dX2_endsOf_30 : decode cX2_endsOf 30 = .ok (.iload 4, 2) := by decide +kernel
theorem dX2_endsOf_32 : decode cX2_endsOf 32 = .ok (.ishl, 1) := by decide +kernel
theorem dX2_endsOf_33 : decode cX2_endsOf 33 = .ok (.ior, 1) := by decide +kernel
theorem dX2_endsOf_34 : decode cX2_endsOf 34 = .ok (.istore_n 2, 1) := by decide +kernel
theorem dX2_endsOf_35 : decode cX2_endsOf 35 = .ok (.iinc 3 1, 3) := by decide +kernel
theorem dX2_endsOf_38 : decode cX2_endsOf 38 = .ok (.goto (-34), 3) := by decide +kernel
theorem dX2_endsOf_41 : decode cX2_endsOf 41 = .ok (.iload_n 2, 1) := by decide +kernel
theorem dX2_endsOf_42 : decode cX2_endsOf 42 = .ok (.ireturn, 1) := by decide +kernel
set_option maxRecDepth 20000 in
theorem ggX2_reachedStates_X2_nextStates : GoodIn wsX2_reachedStates wsX2_nextStates := goodIn_r _ [6, 1, 7, 8, 9, 10, 11, 12, 13, 14, 15] (by decide +kernel) (by decide +kernel)
set_option maxRecDepth 20000 in
theorem gX2_reachedStates_X2_nextStates : GoodIn wsX2_reachedStates (wsV RX2 59 RX2 yX2_nextStates wsX2_nextStates) := goodIn_app (goodIn_of _ (by decide +kernel)) ggX2_reachedStates_X2_nextStates
theorem dX2_reachedStates_0 : decode cX2_reachedStates 0 = .ok (.iconst 1, 1) := by decide +kernel
theorem dX2_reachedStates_1 : decode cX2_reachedStates 1 = .ok (.istore_n 1, 1) := by decide +kernel
theorem dX2_reachedStates_2 : decode cX2_reachedStates 2 = .ok (.iconst 1, 1) := by decide +kernel
theorem dX2_reachedStates_3 : decode cX2_reachedStates 3 = .ok (.istore_n 2, 1) := by decide +kernel
theorem dX2_reachedStates_4 : decode cX2_reachedStates 4 = .ok (.iload_n 2, 1) := by decide +kernel
theorem dX2_reachedStates_5 : decode cX2_reachedStates 5 = .ok (.aload_n 0, 1) := by decide +kernel
theorem dX2_reachedStates_6 : decode cX2_reachedStates 6 = .ok (.getfield 9, 3) := by decide +kernel
theorem dX2_reachedStates_9 : decode cX2_reachedStates 9 = .ok (.if_icmp .ge 17, 3) := by decide +kernel
theorem dX2_reachedStates_12 : decode cX2_reachedStates 12 = .ok (.iload_n 1, 1) := by decide +kernel
theorem dX2_reachedStates_13 : decode cX2_reachedStates 13 = .ok (.aload_n 0, 1) := by decide +kernel
theorem dX2_reachedStates_14 : decode cX2_reachedStates 14 = .ok (.iload_n 1, 1) := by decide +kernel
theorem dX2_reachedStates_15 : decode cX2_reachedStates 15 = .ok (.invokevirtual 59, 3) := by decide +kernel
theorem dX2_reachedStates_18 : decode cX2_reachedStates 18 = .ok (.ior, 1) := by decide +kernel
theorem dX2_reachedStates_19 : decode cX2_reachedStates 19 = .ok (.istore_n 1, 1) := by decide +kernel
theorem dX2_reachedStates_20 : decode cX2_reachedStates 20 = .ok (.iinc 2 1, 3) := by decide +kernel
theorem dX2_reachedStates_23 : decode cX2_reachedStates 23 = .ok (.goto (-19), 3) := by decide +kernel
theorem dX2_reachedStates_26 : decode cX2_reachedStates 26 = .ok (.iload_n 1, 1) := by decide +kernel
theorem dX2_reachedStates_27 : decode cX2_reachedStates 27 = .ok (.ireturn, 1) := by decide +kernel
set_option maxRecDepth 20000 in
theorem ggX2_distanceTo_X3_has : GoodIn wsX2_distanceTo wsX3_has := goodIn_r _ [4] (by decide +kernel) (by decide +kernel)
set_option maxRecDepth 20000 in
theorem gX2_distanceTo_X3_has_n62 : GoodIn wsX2_distanceTo (wsX3_has) := ggX2_distanceTo_X3_has
set_option maxRecDepth 20000 in
theorem ggX2_distanceTo_X2_nextStates : GoodIn wsX2_distanceTo wsX2_nextStates := goodIn_r _ [9, 1, 10, 2, 3, 4, 11, 12, 13, 14, 15] (by decide +kernel) (by decide +kernel)
set_option maxRecDepth 20000 in
theorem gX2_distanceTo_X2_nextStates : GoodIn wsX2_distanceTo (wsV RX2 59 RX2 yX2_nextStates wsX2_nextStates) := goodIn_app (goodIn_of _ (by decide +kernel)) ggX2_distanceTo_X2_nextStates
theorem dX2_distanceTo_0 : decode cX2_distanceTo 0 = .ok (.iconst 1, 1) := by decide +kernel
theorem dX2_distanceTo_1 : decode cX2_distanceTo 1 = .ok (.istore_n 2, 1) := by decide +kernel
theorem dX2_distanceTo_2 : decode cX2_distanceTo 2 = .ok (.iconst 0, 1) := by decide +kernel
theorem dX2_distanceTo_3 : decode cX2_distanceTo 3 = .ok (.istore_n 3, 1) := by decide +kernel
theorem dX2_distanceTo_4 : decode cX2_distanceTo 4 = .ok (.iload_n 3, 1) := by decide +kernel
theorem dX2_distanceTo_5 : decode cX2_distanceTo 5 = .ok (.aload_n 0, 1) := by decide +kernel
theorem dX2_distanceTo_6 : decode cX2_distanceTo 6 = .ok (.getfield 9, 3) := by decide +kernel
theorem dX2_distanceTo_9 : decode cX2_distanceTo 9 = .ok (.if_icmp .ge 27, 3) := by decide +kernel
theorem dX2_distanceTo_12 : decode cX2_distanceTo 12 = .ok (.iload_n 2, 1) := by decide +kernel
theorem dX2_distanceTo_13 : decode cX2_distanceTo 13 = .ok (.iload_n 1, 1) := by decide +kernel
theorem dX2_distanceTo_14 : decode cX2_distanceTo 14 = .ok (.invokestatic 62, 3) := by decide +kernel
theorem dX2_distanceTo_17 : decode cX2_distanceTo 17 = .ok (.ifCond .eq 5, 3) := by decide +kernel
theorem dX2_distanceTo_20 : decode cX2_distanceTo 20 = .ok (.iload_n 3, 1) := by decide +kernel
theorem dX2_distanceTo_21 : decode cX2_distanceTo 21 = .ok (.ireturn, 1) := by decide +kernel
theorem dX2_distanceTo_22 : decode cX2_distanceTo 22 = .ok (.iload_n 2, 1) := by decide +kernel
theorem dX2_distanceTo_23 : decode cX2_distanceTo 23 = .ok (.aload_n 0, 1) := by decide +kernel
theorem dX2_distanceTo_24 : decode cX2_distanceTo 24 = .ok (.iload_n 2, 1) := by decide +kernel
theorem dX2_distanceTo_25 : decode cX2_distanceTo 25 = .ok (.invokevirtual 59, 3) := by decide +kernel
theorem dX2_distanceTo_28 : decode cX2_distanceTo 28 = .ok (.ior, 1) := by decide +kernel
theorem dX2_distanceTo_29 : decode cX2_distanceTo 29 = .ok (.istore_n 2, 1) := by decide +kernel
theorem dX2_distanceTo_30 : decode cX2_distanceTo 30 = .ok (.iinc 3 1, 3) := by decide +kernel
theorem dX2_distanceTo_33 : decode cX2_distanceTo 33 = .ok (.goto (-29), 3) := by decide +kernel
theorem dX2_distanceTo_36 : decode cX2_distanceTo 36 = .ok (.iconst (-1), 1) := by decide +kernel
theorem dX2_distanceTo_37 : decode cX2_distanceTo 37 = .ok (.ireturn, 1) := by decide +kernel
set_option maxRecDepth 20000 in
theorem ggX2_nextStates_X3_has : GoodIn wsX2_nextStates wsX3_has := goodIn_r _ [5] (by decide +kernel) (by decide +kernel)
set_option maxRecDepth 20000 in
theorem gX2_nextStates_X3_has_n62 : GoodIn wsX2_nextStates (wsX3_has) := ggX2_nextStates_X3_has
theorem dX2_nextStates_0 : decode cX2_nextStates 0 = .ok (.iconst 0, 1) := by decide +kernel
theorem dX2_nextStates_1 : decode cX2_nextStates 1 = .ok (.istore_n 2, 1) := by decide +kernel
theorem dX2_nextStates_2 : decode cX2_nextStates 2 = .ok (.iconst 0, 1) := by decide +kernel
theorem dX2_nextStates_3 : decode cX2_nextStates 3 = .ok (.istore_n 3, 1) := by decide +kernel
theorem dX2_nextStates_4 : decode cX2_nextStates 4 = .ok (.iload_n 3, 1) := by decide +kernel
theorem dX2_nextStates_5 : decode cX2_nextStates 5 = .ok (.bipush 6, 2) := by decide +kernel
theorem dX2_nextStates_7 : decode cX2_nextStates 7 = .ok (.if_icmp .ge 60, 3) := by decide +kernel
theorem dX2_nextStates_10 : decode cX2_nextStates 10 = .ok (.iconst 0, 1) := by decide +kernel
theorem dX2_nextStates_11 : decode cX2_nextStates 11 = .ok (.istore 4, 2) := by decide +kernel
theorem dX2_nextStates_13 : decode cX2_nextStates 13 = .ok (.iload 4, 2) := by decide +kernel
theorem dX2_nextStates_15 : decode cX2_nextStates 15 = .ok (.aload_n 0, 1) := by decide +kernel
theorem dX2_nextStates_16 : decode cX2_nextStates 16 = .ok (.getfield 9, 3) := by decide +kernel
theorem dX2_nextStates_19 : decode cX2_nextStates 19 = .ok (.if_icmp .ge 42, 3) := by decide +kernel
theorem dX2_nextStates_22 : decode cX2_nextStates 22 = .ok (.aload_n 0, 1) := by decide +kernel
theorem dX2_nextStates_23 : decode cX2_nextStates 23 = .ok (.getfield 17, 3) := by decide +kernel
theorem dX2_nextStates_26 : decode cX2_nextStates 26 = .ok (.iload_n 3, 1) := by decide +kernel
theorem dX2_nextStates_27 : decode cX2_nextStates 27 = .ok (.aaload, 1) := by decide +kernel
theorem dX2_nextStates_28 : decode cX2_nextStates 28 = .ok (.iload 4, 2) := by decide +kernel
theorem dX2_nextStates_30 : decode cX2_nextStates 30 = .ok (.iaload, 1) := by decide +kernel
theorem dX2_nextStates_31 : decode cX2_nextStates 31 = .ok (.istore 5, 2) := by decide +kernel
theorem dX2_nextStates_33 : decode cX2_nextStates 33 = .ok (.iload 5, 2) := by decide +kernel
theorem dX2_nextStates_35 : decode cX2_nextStates 35 = .ok (.iconst (-1), 1) := by decide +kernel
theorem dX2_nextStates_36 : decode cX2_nextStates 36 = .ok (.if_icmp .eq 19, 3) := by decide +kernel
theorem dX2_nextStates_39 : decode cX2_nextStates 39 = .ok (.iload_n 1, 1) := by decide +kernel
theorem dX2_nextStates_40 : decode cX2_nextStates 40 = .ok (.iload 4, 2) := by decide +kernel
theorem dX2_nextStates_42 : decode cX2_nextStates 42 = .ok (.invokestatic 62, 3) := by decide +kernel
theorem dX2_nextStates_45 : decode cX2_nextStates 45 = .ok (.ifCond .eq 10, 3) := by decide +kernel
theorem dX2_nextStates_48 : decode cX2_nextStates 48 = .ok (.iload_n 2, 1) := by decide +kernel
theorem dX2_nextStates_49 : decode cX2_nextStates 49 = .ok (.iconst 1, 1) := by decide +kernel
theorem dX2_nextStates_50 : decode cX2_nextStates 50 = .ok (.iload 5, 2) := by decide +kernel
theorem dX2_nextStates_52 : decode cX2_nextStates 52 = .ok (.ishl, 1) := by decide +kernel
theorem dX2_nextStates_53 : decode cX2_nextStates 53 = .ok (.ior, 1) := by decide +kernel
theorem dX2_nextStates_54 : decode cX2_nextStates 54 = .ok (.istore_n 2, 1) := by decide +kernel
theorem dX2_nextStates_55 : decode cX2_nextStates 55 = .ok (.iinc 4 1, 3) := by decide +kernel
theorem dX2_nextStates_58 : decode cX2_nextStates 58 = .ok (.goto (-45), 3) := by decide +kernel
theorem dX2_nextStates_61 : decode cX2_nextStates 61 = .ok (.iinc 3 1, 3) := by decide +kernel
theorem dX2_nextStates_64 : decode cX2_nextStates 64 = .ok (.goto (-60), 3) := by decide +kernel
theorem dX2_nextStates_67 : decode cX2_nextStates 67 = .ok (.iload_n 2, 1) := by decide +kernel
theorem dX2_nextStates_68 : decode cX2_nextStates 68 = .ok (.ireturn, 1) := by decide +kernel
theorem dX2_statePairs_0 : decode cX2_statePairs 0 = .ok (.aload_n 0, 1) := by decide +kernel
theorem dX2_statePairs_1 : decode cX2_statePairs 1 = .ok (.getfield 9, 3) := by decide +kernel
theorem dX2_statePairs_4 : decode cX2_statePairs 4 = .ok (.aload_n 0, 1) := by decide +kernel
theorem dX2_statePairs_5 : decode cX2_statePairs 5 = .ok (.getfield 9, 3) := by decide +kernel
theorem dX2_statePairs_8 : decode cX2_statePairs 8 = .ok (.iconst 1, 1) := by decide +kernel
theorem dX2_statePairs_9 : decode cX2_statePairs 9 = .ok (.isub, 1) := by decide +kernel
theorem dX2_statePairs_10 : decode cX2_statePairs 10 = .ok (.imul, 1) := by decide +kernel
theorem dX2_statePairs_11 : decode cX2_statePairs 11 = .ok (.iconst 2, 1) := by decide +kernel
theorem dX2_statePairs_12 : decode cX2_statePairs 12 = .ok (.idiv, 1) := by decide +kernel
theorem dX2_statePairs_13 : decode cX2_statePairs 13 = .ok (.ireturn, 1) := by decide +kernel
set_option maxRecDepth 20000 in
theorem ggX2_stopsOf_X2_all : GoodIn wsX2_stopsOf wsX2_all := goodIn_r _ [6, 7, 8, 9, 10, 11, 12] (by decide +kernel) (by decide +kernel)
set_option maxRecDepth 20000 in
theorem gX2_stopsOf_X2_all : GoodIn wsX2_stopsOf (wsV RX2 66 RX2 yX2_all wsX2_all) := goodIn_app (goodIn_of _ (by decide +kernel)) ggX2_stopsOf_X2_all
theorem dX2_stopsOf_0 : decode cX2_stopsOf 0 = .ok (.aload_n 0, 1) := by decide +kernel
theorem dX2_stopsOf_1 : decode cX2_stopsOf 1 = .ok (.getfield 20, 3) := by decide +kernel
theorem dX2_stopsOf_4 : decode cX2_stopsOf 4 = .ok (.iload_n 1, 1) := by decide +kernel
theorem dX2_stopsOf_5 : decode cX2_stopsOf 5 = .ok (.iaload, 1) := by decide +kernel
theorem dX2_stopsOf_6 : decode cX2_stopsOf 6 = .ok (.ifCond .ne 7, 3) := by decide +kernel
theorem dX2_stopsOf_9 : decode cX2_stopsOf 9 = .ok (.iconst 0, 1) := by decide +kernel
theorem dX2_stopsOf_10 : decode cX2_stopsOf 10 = .ok (.goto 16, 3) := by decide +kernel
theorem dX2_stopsOf_13 : decode cX2_stopsOf 13 = .ok (.aload_n 0, 1) := by decide +kernel
theorem dX2_stopsOf_14 : decode cX2_stopsOf 14 = .ok (.invokevirtual 66, 3) := by decide +kernel
theorem dX2_stopsOf_17 : decode cX2_stopsOf 17 = .ok (.aload_n 0, 1) := by decide +kernel
theorem dX2_stopsOf_18 : decode cX2_stopsOf 18 = .ok (.getfield 20, 3) := by decide +kernel
theorem dX2_stopsOf_21 : decode cX2_stopsOf 21 = .ok (.iload_n 1, 1) := by decide +kernel
theorem dX2_stopsOf_22 : decode cX2_stopsOf 22 = .ok (.iaload, 1) := by decide +kernel
theorem dX2_stopsOf_23 : decode cX2_stopsOf 23 = .ok (.iconst (-1), 1) := by decide +kernel
theorem dX2_stopsOf_24 : decode cX2_stopsOf 24 = .ok (.ixor, 1) := by decide +kernel
theorem dX2_stopsOf_25 : decode cX2_stopsOf 25 = .ok (.iand, 1) := by decide +kernel
theorem dX2_stopsOf_26 : decode cX2_stopsOf 26 = .ok (.ireturn, 1) := by decide +kernel
set_option maxRecDepth 20000 in
theorem ggX2_stopPairs_X2_stopsOf : GoodIn wsX2_stopPairs wsX2_stopsOf := goodIn_r _ [5, 6, 7, 8, 9, 4, 10, 11, 19, 20, 21, 22, 23] (by decide +kernel) (by decide +kernel)
set_option maxRecDepth 20000 in
theorem gX2_stopPairs_X2_stopsOf : GoodIn wsX2_stopPairs (wsV RX2 70 RX2 yX2_stopsOf wsX2_stopsOf) := goodIn_app (goodIn_of _ (by decide +kernel)) ggX2_stopPairs_X2_stopsOf
set_option maxRecDepth 20000 in
theorem ggX2_stopPairs_J6_bitCount_0f7a4 : GoodIn wsX2_stopPairs wsJ6_bitCount_0f7a4 := goodIn_r _ [15, 16, 17, 18] (by decide +kernel) (by decide +kernel)
set_option maxRecDepth 20000 in
theorem gX2_stopPairs_J6_bitCount_0f7a4 : GoodIn wsX2_stopPairs (va_wsS RX2 73 yJ6_bitCount_0f7a4 wsJ6_bitCount_0f7a4) := goodIn_app (goodIn_of _ (by decide +kernel)) ggX2_stopPairs_J6_bitCount_0f7a4
theorem dX2_stopPairs_0 : decode cX2_stopPairs 0 = .ok (.iconst 0, 1) := by decide +kernel
theorem dX2_stopPairs_1 : decode cX2_stopPairs 1 = .ok (.istore_n 1, 1) := by decide +kernel
theorem dX2_stopPairs_2 : decode cX2_stopPairs 2 = .ok (.iconst 0, 1) := by decide +kernel
theorem dX2_stopPairs_3 : decode cX2_stopPairs 3 = .ok (.istore_n 2, 1) := by decide +kernel
theorem dX2_stopPairs_4 : decode cX2_stopPairs 4 = .ok (.iload_n 2, 1) := by decide +kernel
theorem dX2_stopPairs_5 : decode cX2_stopPairs 5 = .ok (.bipush 6, 2) := by decide +kernel
theorem dX2_stopPairs_7 : decode cX2_stopPairs 7 = .ok (.if_icmp .ge 20, 3) := by decide +kernel
theorem dX2_stopPairs_10 : decode cX2_stopPairs 10 = .ok (.iload_n 1, 1) := by decide +kernel
theorem dX2_stopPairs_11 : decode cX2_stopPairs 11 = .ok (.aload_n 0, 1) := by decide +kernel
theorem dX2_stopPairs_12 : decode cX2_stopPairs 12 = .ok (.iload_n 2, 1) := by decide +kernel
theorem dX2_stopPairs_13 : decode cX2_stopPairs 13 = .ok (.invokevirtual 70, 3) := by decide +kernel
theorem dX2_stopPairs_16 : decode cX2_stopPairs 16 = .ok (.invokestatic 73, 3) := by decide +kernel
theorem dX2_stopPairs_19 : decode cX2_stopPairs 19 = .ok (.iadd, 1) := by decide +kernel
theorem dX2_stopPairs_20 : decode cX2_stopPairs 20 = .ok (.istore_n 1, 1) := by decide +kernel
theorem dX2_stopPairs_21 : decode cX2_stopPairs 21 = .ok (.iinc 2 1, 3) := by decide +kernel
theorem dX2_stopPairs_24 : decode cX2_stopPairs 24 = .ok (.goto (-20), 3) := by decide +kernel
theorem dX2_stopPairs_27 : decode cX2_stopPairs 27 = .ok (.iload_n 1, 1) := by decide +kernel
theorem dX2_stopPairs_28 : decode cX2_stopPairs 28 = .ok (.ireturn, 1) := by decide +kernel
set_option maxRecDepth 20000 in
theorem ggX3_init_X2_init : GoodIn wsX3_init wsX2_init := goodIn_r _ [18, 19, 2, 3, 20, 21, 22, 23, 24, 25, 26, 43, 44, 45, 46, 47] (by decide +kernel) (by decide +kernel)
set_option maxRecDepth 20000 in
theorem gX3_init_X2_init : GoodIn wsX3_init (wsX2_init) := ggX3_init_X2_init
set_option maxRecDepth 20000 in
theorem ggX3_init_X1_init : GoodIn wsX3_init wsX1_init := goodIn_r _ [29, 30, 2, 3, 31, 22, 32, 51, 52, 53, 54] (by decide +kernel) (by decide +kernel)
set_option maxRecDepth 20000 in
theorem gX3_init_X1_init : GoodIn wsX3_init (wsX1_init) := ggX3_init_X1_init
set_option maxRecDepth 20000 in
theorem ggX3_init_X0_init : GoodIn wsX3_init wsX0_init := goodIn_r _ [35, 36, 2, 3, 37, 38, 22, 39, 40, 41, 42, 55, 56, 57, 58, 59, 60, 61, 62, 63, 64, 65] (by decide +kernel) (by decide +kernel)
set_option maxRecDepth 20000 in
theorem gX3_init_X0_init : GoodIn wsX3_init (wsX0_init) := ggX3_init_X0_init
theorem dX3_init_0 : decode cX3_init 0 = .ok (.aload_n 0, 1) := by decide +kernel
theorem dX3_init_1 : decode cX3_init 1 = .ok (.invokespecial 1, 3) := by decide +kernel
theorem dX3_init_4 : decode cX3_init 4 = .ok (.aload_n 0, 1) := by decide +kernel
theorem dX3_init_5 : decode cX3_init 5 = .ok (.new 7, 3) := by decide +kernel
theorem dX3_init_8 : decode cX3_init 8 = .ok (.dup, 1) := by decide +kernel
theorem dX3_init_9 : decode cX3_init 9 = .ok (.invokespecial 9, 3) := by decide +kernel
theorem dX3_init_12 : decode cX3_init 12 = .ok (.putfield 10, 3) := by decide +kernel
theorem dX3_init_15 : decode cX3_init 15 = .ok (.aload_n 0, 1) := by decide +kernel
theorem dX3_init_16 : decode cX3_init 16 = .ok (.new 16, 3) := by decide +kernel
theorem dX3_init_19 : decode cX3_init 19 = .ok (.dup, 1) := by decide +kernel
theorem dX3_init_20 : decode cX3_init 20 = .ok (.aload_n 0, 1) := by decide +kernel
theorem dX3_init_21 : decode cX3_init 21 = .ok (.getfield 10, 3) := by decide +kernel
theorem dX3_init_24 : decode cX3_init 24 = .ok (.invokespecial 18, 3) := by decide +kernel
theorem dX3_init_27 : decode cX3_init 27 = .ok (.putfield 21, 3) := by decide +kernel
theorem dX3_init_30 : decode cX3_init 30 = .ok (.aload_n 0, 1) := by decide +kernel
theorem dX3_init_31 : decode cX3_init 31 = .ok (.new 25, 3) := by decide +kernel
theorem dX3_init_34 : decode cX3_init 34 = .ok (.dup, 1) := by decide +kernel
theorem dX3_init_35 : decode cX3_init 35 = .ok (.aload_n 0, 1) := by decide +kernel
theorem dX3_init_36 : decode cX3_init 36 = .ok (.getfield 10, 3) := by decide +kernel
theorem dX3_init_39 : decode cX3_init 39 = .ok (.aload_n 0, 1) := by decide +kernel
theorem dX3_init_40 : decode cX3_init 40 = .ok (.getfield 21, 3) := by decide +kernel
theorem dX3_init_43 : decode cX3_init 43 = .ok (.invokespecial 27, 3) := by decide +kernel
theorem dX3_init_46 : decode cX3_init 46 = .ok (.putfield 30, 3) := by decide +kernel
theorem dX3_init_49 : decode cX3_init 49 = .ok (.return_, 1) := by decide +kernel
set_option maxRecDepth 20000 in
theorem ggX3_addState_X3_changed : GoodIn wsX3_addState wsX3_changed := goodIn_r _ [8, 9, 10, 11, 12, 13, 19, 20, 21, 22, 23, 24, 25, 26, 27, 28, 29, 30, 31, 32, 33] (by decide +kernel) (by decide +kernel)
set_option maxRecDepth 20000 in
theorem gX3_addState_X3_changed : GoodIn wsX3_addState (wsV RX3 45 RX3 yX3_changed wsX3_changed) := goodIn_app (goodIn_of _ (by decide +kernel)) ggX3_addState_X3_changed
theorem dX3_addState_0 : decode cX3_addState 0 = .ok (.aload_n 0, 1) := by decide +kernel
theorem dX3_addState_1 : decode cX3_addState 1 = .ok (.getfield 10, 3) := by decide +kernel
theorem dX3_addState_4 : decode cX3_addState 4 = .ok (.getfield 34, 3) := by decide +kernel
theorem dX3_addState_7 : decode cX3_addState 7 = .ok (.bipush 12, 2) := by decide +kernel
theorem dX3_addState_9 : decode cX3_addState 9 = .ok (.if_icmp .lt 13, 3) := by decide +kernel
theorem dX3_addState_12 : decode cX3_addState 12 = .ok (.new 38, 3) := by decide +kernel
theorem dX3_addState_15 : decode cX3_addState 15 = .ok (.dup, 1) := by decide +kernel
theorem dX3_addState_16 : decode cX3_addState 16 = .ok (.ldc 40, 2) := by decide +kernel
theorem dX3_addState_18 : decode cX3_addState 18 = .ok (.invokespecial 42, 3) := by decide +kernel
theorem dX3_addState_21 : decode cX3_addState 21 = .ok (.athrow, 1) := by decide +kernel
theorem dX3_addState_22 : decode cX3_addState 22 = .ok (.aload_n 0, 1) := by decide +kernel
theorem dX3_addState_23 : decode cX3_addState 23 = .ok (.getfield 10, 3) := by decide +kernel
theorem dX3_addState_26 : decode cX3_addState 26 = .ok (.getfield 34, 3) := by decide +kernel
theorem dX3_addState_29 : decode cX3_addState 29 = .ok (.istore_n 1, 1) := by decide +kernel
theorem dX3_addState_30 : decode cX3_addState 30 = .ok (.aload_n 0, 1) := by decide +kernel
theorem dX3_addState_31 : decode cX3_addState 31 = .ok (.getfield 10, 3) := by decide +kernel
theorem dX3_addState_34 : decode cX3_addState 34 = .ok (.iload_n 1, 1) := by decide +kernel
theorem dX3_addState_35 : decode cX3_addState 35 = .ok (.iconst 1, 1) := by decide +kernel
theorem dX3_addState_36 : decode cX3_addState 36 = .ok (.iadd, 1) := by decide +kernel
theorem dX3_addState_37 : decode cX3_addState 37 = .ok (.putfield 34, 3) := by decide +kernel
theorem dX3_addState_40 : decode cX3_addState 40 = .ok (.aload_n 0, 1) := by decide +kernel
theorem dX3_addState_41 : decode cX3_addState 41 = .ok (.invokevirtual 45, 3) := by decide +kernel
theorem dX3_addState_44 : decode cX3_addState 44 = .ok (.iload_n 1, 1) := by decide +kernel
theorem dX3_addState_45 : decode cX3_addState 45 = .ok (.ireturn, 1) := by decide +kernel
set_option maxRecDepth 20000 in
theorem ggX3_step_X3_needState : GoodIn wsX3_step wsX3_needState := goodIn_ca (goodIn_r _ [6, 7, 8, 1, 48, 49, 50, 51, 52, 53, 54, 55] (by decide +kernel) (by decide +kernel)) (goodIn_sub (fun _ h => List.mem_cons_of_mem _ (List.mem_append_right _ h)) (by decide +kernel))
set_option maxRecDepth 20000 in
theorem gX3_step_X3_needState : GoodIn wsX3_step (wsV RX3 48 RX3 yX3_needState wsX3_needState) := goodIn_app (goodIn_of _ (by decide +kernel)) ggX3_step_X3_needState
set_option maxRecDepth 20000 in
theorem ggX3_step_X3_needLabel : GoodIn wsX3_step wsX3_needLabel := goodIn_ca (goodIn_r _ [11, 7, 8] (by decide +kernel) (by decide +kernel)) (goodIn_sub (fun _ h => List.mem_cons_of_mem _ (List.mem_append_right _ h)) (by decide +kernel))
set_option maxRecDepth 20000 in
theorem gX3_step_X3_needLabel : GoodIn wsX3_step (va_wsS RX3 52 yX3_needLabel wsX3_needLabel) := goodIn_app (goodIn_of _ (by decide +kernel)) ggX3_step_X3_needLabel
set_option maxRecDepth 20000 in
theorem ggX3_step_X2_end : GoodIn wsX3_step wsX2_end := goodIn_r _ [16, 17, 51, 52, 53, 54, 55] (by decide +kernel) (by decide +kernel)
set_option maxRecDepth 20000 in
theorem gX3_step_X2_end : GoodIn wsX3_step (wsV RX3 55 RX2 yX2_end wsX2_end) := goodIn_app (goodIn_of _ (by decide +kernel)) ggX3_step_X2_end
set_option maxRecDepth 20000 in
theorem ggX3_step_X2_put : GoodIn wsX3_step wsX2_put := goodIn_r _ [21, 22, 23, 24, 15, 25, 17, 26, 27, 28, 29, 30, 31, 32, 33, 34, 35, 36, 37, 38, 39, 40, 41, 51, 52, 53, 54, 55] (by decide +kernel) (by decide +kernel)
set_option maxRecDepth 20000 in
theorem gX3_step_X2_put : GoodIn wsX3_step (wsV RX3 59 RX2 yX2_put wsX2_put) := goodIn_app (goodIn_of _ (by decide +kernel)) ggX3_step_X2_put
set_option maxRecDepth 20000 in
theorem ggX3_step_X3_changed : GoodIn wsX3_step wsX3_changed := goodIn_r _ [45, 46, 47, 48, 49, 50, 56, 57, 58, 59, 60, 61, 62, 63, 64, 65, 66, 67, 68, 69, 70] (by decide +kernel) (by decide +kernel)
set_option maxRecDepth 20000 in
theorem gX3_step_X3_changed : GoodIn wsX3_step (wsV RX3 45 RX3 yX3_changed wsX3_changed) := goodIn_app (goodIn_of _ (by decide +kernel)) ggX3_step_X3_changed
theorem dX3_step_0 : decode cX3_step 0 = .ok (.aload_n 0, 1) := by decide +kernel
theorem dX3_step_1 : decode cX3_step 1 = .ok (.iload_n 1, 1) := by decide +kernel
theorem dX3_step_2 : decode cX3_step 2 = .ok (.invokevirtual 48, 3) := by decide +kernel
theorem dX3_step_5 : decode cX3_step 5 = .ok (.iload_n 2, 1) := by decide +kernel
theorem dX3_step_6 : decode cX3_step 6 = .ok (.invokestatic 52, 3) := by decide +kernel
theorem dX3_step_9 : decode cX3_step 9 = .ok (.aload_n 0, 1) := by decide +kernel
theorem dX3_step_10 : decode cX3_step 10 = .ok (.iload_n 3, 1) := by decide +kernel
theorem dX3_step_11 : decode cX3_step 11 = .ok (.invokevirtual 48, 3) := by decide +kernel
theorem dX3_step_14 : decode cX3_step 14 = .ok (.aload_n 0, 1) := by decide +kernel
theorem dX3_step_15 : decode cX3_step 15 = .ok (.getfield 10, 3) := by decide +kernel
theorem dX3_step_18 : decode cX3_step 18 = .ok (.iload_n 1, 1) := by decide +kernel
theorem dX3_step_19 : decode cX3_step 19 = .ok (.iload_n 2, 1) := by decide +kernel
theorem dX3_step_20 : decode cX3_step 20 = .ok (.invokevirtual 55, 3) := by decide +kernel
theorem dX3_step_23 : decode cX3_step 23 = .ok (.istore 4, 2) := by decide +kernel
theorem dX3_step_25 : decode cX3_step 25 = .ok (.aload_n 0, 1) := by decide +kernel
theorem dX3_step_26 : decode cX3_step 26 = .ok (.getfield 10, 3) := by decide +kernel
theorem dX3_step_29 : decode cX3_step 29 = .ok (.iload_n 1, 1) := by decide +kernel
theorem dX3_step_30 : decode cX3_step 30 = .ok (.iload_n 2, 1) := by decide +kernel
theorem dX3_step_31 : decode cX3_step 31 = .ok (.iload_n 3, 1) := by decide +kernel
theorem dX3_step_32 : decode cX3_step 32 = .ok (.invokevirtual 59, 3) := by decide +kernel
theorem dX3_step_35 : decode cX3_step 35 = .ok (.aload_n 0, 1) := by decide +kernel
theorem dX3_step_36 : decode cX3_step 36 = .ok (.invokevirtual 45, 3) := by decide +kernel
theorem dX3_step_39 : decode cX3_step 39 = .ok (.iload 4, 2) := by decide +kernel
theorem dX3_step_41 : decode cX3_step 41 = .ok (.ireturn, 1) := by decide +kernel
set_option maxRecDepth 20000 in
theorem ggX3_unstep_X3_needState : GoodIn wsX3_unstep wsX3_needState := goodIn_ca (goodIn_r _ [6, 7, 8, 1, 48, 49, 50, 51, 52, 53, 54, 55] (by decide +kernel) (by decide +kernel)) (goodIn_sub (fun _ h => List.mem_cons_of_mem _ (List.mem_append_right _ h)) (by decide +kernel))
set_option maxRecDepth 20000 in
theorem gX3_unstep_X3_needState : GoodIn wsX3_unstep (wsV RX3 48 RX3 yX3_needState wsX3_needState) := goodIn_app (goodIn_of _ (by decide +kernel)) ggX3_unstep_X3_needState
set_option maxRecDepth 20000 in
theorem ggX3_unstep_X3_needLabel : GoodIn wsX3_unstep wsX3_needLabel := goodIn_ca (goodIn_r _ [11, 7, 8] (by decide +kernel) (by decide +kernel)) (goodIn_sub (fun _ h => List.mem_cons_of_mem _ (List.mem_append_right _ h)) (by decide +kernel))
set_option maxRecDepth 20000 in
theorem gX3_unstep_X3_needLabel : GoodIn wsX3_unstep (va_wsS RX3 52 yX3_needLabel wsX3_needLabel) := goodIn_app (goodIn_of _ (by decide +kernel)) ggX3_unstep_X3_needLabel
set_option maxRecDepth 20000 in
theorem ggX3_unstep_X2_end : GoodIn wsX3_unstep wsX2_end := goodIn_r _ [16, 17, 51, 52, 53, 54, 55] (by decide +kernel) (by decide +kernel)
set_option maxRecDepth 20000 in
theorem gX3_unstep_X2_end : GoodIn wsX3_unstep (wsV RX3 55 RX2 yX2_end wsX2_end) := goodIn_app (goodIn_of _ (by decide +kernel)) ggX3_unstep_X2_end
set_option maxRecDepth 20000 in
theorem ggX3_unstep_X2_put : GoodIn wsX3_unstep wsX2_put := goodIn_r _ [21, 22, 23, 24, 15, 25, 17, 26, 27, 28, 29, 30, 31, 32, 33, 34, 35, 36, 37, 38, 39, 40, 41, 51, 52, 53, 54, 55] (by decide +kernel) (by decide +kernel)
set_option maxRecDepth 20000 in
theorem gX3_unstep_X2_put : GoodIn wsX3_unstep (wsV RX3 59 RX2 yX2_put wsX2_put) := goodIn_app (goodIn_of _ (by decide +kernel)) ggX3_unstep_X2_put
set_option maxRecDepth 20000 in
theorem ggX3_unstep_X3_changed : GoodIn wsX3_unstep wsX3_changed := goodIn_r _ [45, 46, 47, 48, 49, 50, 56, 57, 58, 59, 60, 61, 62, 63, 64, 65, 66, 67, 68, 69, 70] (by decide +kernel) (by decide +kernel)
set_option maxRecDepth 20000 in
theorem gX3_unstep_X3_changed : GoodIn wsX3_unstep (wsV RX3 45 RX3 yX3_changed wsX3_changed) := goodIn_app (goodIn_of _ (by decide +kernel)) ggX3_unstep_X3_changed
theorem dX3_unstep_0 : decode cX3_unstep 0 = .ok (.aload_n 0, 1) := by decide +kernel
theorem dX3_unstep_1 : decode cX3_unstep 1 = .ok (.iload_n 1, 1) := by decide +kernel
theorem dX3_unstep_2 : decode cX3_unstep 2 = .ok (.invokevirtual 48, 3) := by decide +kernel
theorem dX3_unstep_5 : decode cX3_unstep 5 = .ok (.iload_n 2, 1) := by decide +kernel
theorem dX3_unstep_6 : decode cX3_unstep 6 = .ok (.invokestatic 52, 3) := by decide +kernel
theorem dX3_unstep_9 : decode cX3_unstep 9 = .ok (.aload_n 0, 1) := by decide +kernel
theorem dX3_unstep_10 : decode cX3_unstep 10 = .ok (.getfield 10, 3) := by decide +kernel
theorem dX3_unstep_13 : decode cX3_unstep 13 = .ok (.iload_n 1, 1) := by decide +kernel
theorem dX3_unstep_14 : decode cX3_unstep 14 = .ok (.iload_n 2, 1) := by decide +kernel
theorem dX3_unstep_15 : decode cX3_unstep 15 = .ok (.invokevirtual 55, 3) := by decide +kernel
theorem dX3_unstep_18 : decode cX3_unstep 18 = .ok (.iconst (-1), 1) := by decide +kernel
theorem dX3_unstep_19 : decode cX3_unstep 19 = .ok (.if_icmp .eq 7, 3) := by decide +kernel
theorem dX3_unstep_22 : decode cX3_unstep 22 = .ok (.iconst 1, 1) := by decide +kernel
theorem dX3_unstep_23 : decode cX3_unstep 23 = .ok (.goto 4, 3) := by decide +kernel
theorem dX3_unstep_26 : decode cX3_unstep 26 = .ok (.iconst 0, 1) := by decide +kernel
theorem dX3_unstep_27 : decode cX3_unstep 27 = .ok (.istore_n 3, 1) := by decide +kernel
theorem dX3_unstep_28 : decode cX3_unstep 28 = .ok (.iload_n 3, 1) := by decide +kernel
theorem dX3_unstep_29 : decode cX3_unstep 29 = .ok (.ifCond .eq 13, 3) := by decide +kernel
theorem dX3_unstep_32 : decode cX3_unstep 32 = .ok (.aload_n 0, 1) := by decide +kernel
theorem dX3_unstep_33 : decode cX3_unstep 33 = .ok (.getfield 10, 3) := by decide +kernel
theorem dX3_unstep_36 : decode cX3_unstep 36 = .ok (.iload_n 1, 1) := by decide +kernel
theorem dX3_unstep_37 : decode cX3_unstep 37 = .ok (.iload_n 2, 1) := by decide +kernel
theorem dX3_unstep_38 : decode cX3_unstep 38 = .ok (.iconst (-1), 1) := by decide +kernel
theorem dX3_unstep_39 : decode cX3_unstep 39 = .ok (.invokevirtual 59, 3) := by decide +kernel
theorem dX3_unstep_42 : decode cX3_unstep 42 = .ok (.aload_n 0, 1) := by decide +kernel
theorem dX3_unstep_43 : decode cX3_unstep 43 = .ok (.invokevirtual 45, 3) := by decide +kernel
theorem dX3_unstep_46 : decode cX3_unstep 46 = .ok (.iload_n 3, 1) := by decide +kernel
theorem dX3_unstep_47 : decode cX3_unstep 47 = .ok (.ireturn, 1) := by decide +kernel
set_option maxRecDepth 20000 in
theorem ggX3_rename_X3_needLabel : GoodIn wsX3_rename wsX3_needLabel := goodIn_ca (goodIn_r _ [7, 8, 9] (by decide +kernel) (by decide +kernel)) (goodIn_sub (fun _ h => List.mem_cons_of_mem _ (List.mem_append_right _ h)) (by decide +kernel))
set_option maxRecDepth 20000 in
theorem gX3_rename_X3_needLabel : GoodIn wsX3_rename (va_wsS RX3 52 yX3_needLabel wsX3_needLabel) := goodIn_app (goodIn_of _ (by decide +kernel)) ggX3_rename_X3_needLabel
set_option maxRecDepth 20000 in
theorem ggX3_rename_X2_beginning : GoodIn wsX3_rename wsX2_beginning := goodIn_r _ [14, 15, 56, 57, 58, 59, 60] (by decide +kernel) (by decide +kernel)
set_option maxRecDepth 20000 in
theorem gX3_rename_X2_beginning : GoodIn wsX3_rename (wsV RX3 63 RX2 yX2_beginning wsX2_beginning) := goodIn_app (goodIn_of _ (by decide +kernel)) ggX3_rename_X2_beginning
set_option maxRecDepth 20000 in
theorem ggX3_rename_X2_move : GoodIn wsX3_rename wsX2_move := goodIn_r _ [19, 20, 21, 22, 23, 24, 13, 25, 15, 26, 27, 28, 29, 30, 31, 32, 33, 34, 35, 36, 37, 38, 39, 56, 57, 58, 59, 60] (by decide +kernel) (by decide +kernel)
set_option maxRecDepth 20000 in
theorem gX3_rename_X2_move : GoodIn wsX3_rename (wsV RX3 69 RX2 yX2_move wsX2_move) := goodIn_app (goodIn_of _ (by decide +kernel)) ggX3_rename_X2_move
set_option maxRecDepth 20000 in
theorem ggX3_rename_X3_changed : GoodIn wsX3_rename wsX3_changed := goodIn_r _ [43, 44, 45, 53, 54, 55, 61, 62, 63, 64, 65, 66, 67, 68, 69, 70, 71, 72, 73, 74, 75] (by decide +kernel) (by decide +kernel)
set_option maxRecDepth 20000 in
theorem gX3_rename_X3_changed : GoodIn wsX3_rename (wsV RX3 45 RX3 yX3_changed wsX3_changed) := goodIn_app (goodIn_of _ (by decide +kernel)) ggX3_rename_X3_changed
set_option maxRecDepth 20000 in
theorem ggX3_rename_J6_bitCount_0f7a4 : GoodIn wsX3_rename wsJ6_bitCount_0f7a4 := goodIn_r _ [49, 50, 51, 52] (by decide +kernel) (by decide +kernel)
set_option maxRecDepth 20000 in
theorem gX3_rename_J6_bitCount_0f7a4 : GoodIn wsX3_rename (va_wsS RX3 73 yJ6_bitCount_0f7a4 wsJ6_bitCount_0f7a4) := goodIn_app (goodIn_of _ (by decide +kernel)) ggX3_rename_J6_bitCount_0f7a4
theorem dX3_rename_0 : decode cX3_rename 0 = .ok (.iload_n 1, 1) := by decide +kernel
theorem dX3_rename_1 : decode cX3_rename 1 = .ok (.invokestatic 52, 3) := by decide +kernel
theorem dX3_rename_4 : decode cX3_rename 4 = .ok (.iload_n 2, 1) := by decide +kernel
theorem dX3_rename_5 : decode cX3_rename 5 = .ok (.invokestatic 52, 3) := by decide +kernel
theorem dX3_rename_8 : decode cX3_rename 8 = .ok (.aload_n 0, 1) := by decide +kernel
theorem dX3_rename_9 : decode cX3_rename 9 = .ok (.getfield 10, 3) := by decide +kernel
theorem dX3_rename_12 : decode cX3_rename 12 = .ok (.iload_n 1, 1) := by decide +kernel
theorem dX3_rename_13 : decode cX3_rename 13 = .ok (.invokevirtual 63, 3) := by decide +kernel
theorem dX3_rename_16 : decode cX3_rename 16 = .ok (.istore_n 3, 1) := by decide +kernel
theorem dX3_rename_17 : decode cX3_rename 17 = .ok (.iload_n 1, 1) := by decide +kernel
theorem dX3_rename_18 : decode cX3_rename 18 = .ok (.iload_n 2, 1) := by decide +kernel
theorem dX3_rename_19 : decode cX3_rename 19 = .ok (.if_icmp .eq 35, 3) := by decide +kernel
theorem dX3_rename_22 : decode cX3_rename 22 = .ok (.iload_n 3, 1) := by decide +kernel
theorem dX3_rename_23 : decode cX3_rename 23 = .ok (.aload_n 0, 1) := by decide +kernel
theorem dX3_rename_24 : decode cX3_rename 24 = .ok (.getfield 10, 3) := by decide +kernel
theorem dX3_rename_27 : decode cX3_rename 27 = .ok (.iload_n 2, 1) := by decide +kernel
theorem dX3_rename_28 : decode cX3_rename 28 = .ok (.invokevirtual 63, 3) := by decide +kernel
theorem dX3_rename_31 : decode cX3_rename 31 = .ok (.iand, 1) := by decide +kernel
theorem dX3_rename_32 : decode cX3_rename 32 = .ok (.ifCond .eq 13, 3) := by decide +kernel
theorem dX3_rename_35 : decode cX3_rename 35 = .ok (.new 38, 3) := by decide +kernel
theorem dX3_rename_38 : decode cX3_rename 38 = .ok (.dup, 1) := by decide +kernel
theorem dX3_rename_39 : decode cX3_rename 39 = .ok (.ldc 67, 2) := by decide +kernel
theorem dX3_rename_41 : decode cX3_rename 41 = .ok (.invokespecial 42, 3) := by decide +kernel
theorem dX3_rename_44 : decode cX3_rename 44 = .ok (.athrow, 1) := by decide +kernel
theorem dX3_rename_45 : decode cX3_rename 45 = .ok (.aload_n 0, 1) := by decide +kernel
theorem dX3_rename_46 : decode cX3_rename 46 = .ok (.getfield 10, 3) := by decide +kernel
theorem dX3_rename_49 : decode cX3_rename 49 = .ok (.iload_n 1, 1) := by decide +kernel
theorem dX3_rename_50 : decode cX3_rename 50 = .ok (.iload_n 2, 1) := by decide +kernel
theorem dX3_rename_51 : decode cX3_rename 51 = .ok (.invokevirtual 69, 3) := by decide +kernel
theorem dX3_rename_54 : decode cX3_rename 54 = .ok (.aload_n 0, 1) := by decide +kernel
theorem dX3_rename_55 : decode cX3_rename 55 = .ok (.invokevirtual 45, 3) := by decide +kernel
theorem dX3_rename_58 : decode cX3_rename 58 = .ok (.iload_n 3, 1) := by decide +kernel
theorem dX3_rename_59 : decode cX3_rename 59 = .ok (.invokestatic 73, 3) := by decide +kernel
theorem dX3_rename_62 : decode cX3_rename 62 = .ok (.ireturn, 1) := by decide +kernel
theorem dX3_stateCount_0 : decode cX3_stateCount 0 = .ok (.aload_n 0, 1) := by decide +kernel
theorem dX3_stateCount_1 : decode cX3_stateCount 1 = .ok (.getfield 10, 3) := by decide +kernel
theorem dX3_stateCount_4 : decode cX3_stateCount 4 = .ok (.getfield 34, 3) := by decide +kernel
theorem dX3_stateCount_7 : decode cX3_stateCount 7 = .ok (.ireturn, 1) := by decide +kernel
set_option maxRecDepth 20000 in
theorem ggX3_target_X3_needState : GoodIn wsX3_target wsX3_needState := goodIn_ca (goodIn_r _ [6, 7, 8, 1, 18, 19, 20, 21, 22, 23, 24, 25] (by decide +kernel) (by decide +kernel)) (goodIn_sub (fun _ h => List.mem_cons_of_mem _ (List.mem_append_right _ h)) (by decide +kernel))
set_option maxRecDepth 20000 in
theorem gX3_target_X3_needState : GoodIn wsX3_target (wsV RX3 48 RX3 yX3_needState wsX3_needState) := goodIn_app (goodIn_of _ (by decide +kernel)) ggX3_target_X3_needState
set_option maxRecDepth 20000 in
theorem ggX3_target_X3_needLabel : GoodIn wsX3_target wsX3_needLabel := goodIn_ca (goodIn_r _ [11, 7, 8] (by decide +kernel) (by decide +kernel)) (goodIn_sub (fun _ h => List.mem_cons_of_mem _ (List.mem_append_right _ h)) (by decide +kernel))
set_option maxRecDepth 20000 in
theorem gX3_target_X3_needLabel : GoodIn wsX3_target (va_wsS RX3 52 yX3_needLabel wsX3_needLabel) := goodIn_app (goodIn_of _ (by decide +kernel)) ggX3_target_X3_needLabel
set_option maxRecDepth 20000 in
theorem ggX3_target_X2_end : GoodIn wsX3_target wsX2_end := goodIn_r _ [16, 17, 21, 22, 23, 24, 25] (by decide +kernel) (by decide +kernel)
set_option maxRecDepth 20000 in
theorem gX3_target_X2_end : GoodIn wsX3_target (wsV RX3 55 RX2 yX2_end wsX2_end) := goodIn_app (goodIn_of _ (by decide +kernel)) ggX3_target_X2_end
theorem dX3_target_0 : decode cX3_target 0 = .ok (.aload_n 0, 1) := by decide +kernel
theorem dX3_target_1 : decode cX3_target 1 = .ok (.iload_n 1, 1) := by decide +kernel
theorem dX3_target_2 : decode cX3_target 2 = .ok (.invokevirtual 48, 3) := by decide +kernel
theorem dX3_target_5 : decode cX3_target 5 = .ok (.iload_n 2, 1) := by decide +kernel
theorem dX3_target_6 : decode cX3_target 6 = .ok (.invokestatic 52, 3) := by decide +kernel
theorem dX3_target_9 : decode cX3_target 9 = .ok (.aload_n 0, 1) := by decide +kernel
theorem dX3_target_10 : decode cX3_target 10 = .ok (.getfield 10, 3) := by decide +kernel
theorem dX3_target_13 : decode cX3_target 13 = .ok (.iload_n 1, 1) := by decide +kernel
theorem dX3_target_14 : decode cX3_target 14 = .ok (.iload_n 2, 1) := by decide +kernel
theorem dX3_target_15 : decode cX3_target 15 = .ok (.invokevirtual 55, 3) := by decide +kernel
theorem dX3_target_18 : decode cX3_target 18 = .ok (.ireturn, 1) := by decide +kernel
set_option maxRecDepth 20000 in
theorem ggX3_enabled_X3_needState : GoodIn wsX3_enabled wsX3_needState := goodIn_ca (goodIn_r _ [6, 7, 8, 1, 15, 16, 17, 18, 19, 20, 21, 22] (by decide +kernel) (by decide +kernel)) (goodIn_sub (fun _ h => List.mem_cons_of_mem _ (List.mem_append_right _ h)) (by decide +kernel))
set_option maxRecDepth 20000 in
theorem gX3_enabled_X3_needState : GoodIn wsX3_enabled (wsV RX3 48 RX3 yX3_needState wsX3_needState) := goodIn_app (goodIn_of _ (by decide +kernel)) ggX3_enabled_X3_needState
set_option maxRecDepth 20000 in
theorem ggX3_enabled_X2_end : GoodIn wsX3_enabled wsX2_end := goodIn_r _ [13, 14, 18, 19, 20, 21, 22] (by decide +kernel) (by decide +kernel)
set_option maxRecDepth 20000 in
theorem gX3_enabled_X2_end : GoodIn wsX3_enabled (wsV RX3 55 RX2 yX2_end wsX2_end) := goodIn_app (goodIn_of _ (by decide +kernel)) ggX3_enabled_X2_end
theorem dX3_enabled_0 : decode cX3_enabled 0 = .ok (.aload_n 0, 1) := by decide +kernel
theorem dX3_enabled_1 : decode cX3_enabled 1 = .ok (.iload_n 1, 1) := by decide +kernel
theorem dX3_enabled_2 : decode cX3_enabled 2 = .ok (.invokevirtual 48, 3) := by decide +kernel
theorem dX3_enabled_5 : decode cX3_enabled 5 = .ok (.iconst 0, 1) := by decide +kernel
theorem dX3_enabled_6 : decode cX3_enabled 6 = .ok (.istore_n 2, 1) := by decide +kernel
theorem dX3_enabled_7 : decode cX3_enabled 7 = .ok (.iconst 0, 1) := by decide +kernel
theorem dX3_enabled_8 : decode cX3_enabled 8 = .ok (.istore_n 3, 1) := by decide +kernel
theorem dX3_enabled_9 : decode cX3_enabled 9 = .ok (.iload_n 3, 1) := by decide +kernel
theorem dX3_enabled_10 : decode cX3_enabled 10 = .ok (.bipush 6, 2) := by decide +kernel
theorem dX3_enabled_12 : decode cX3_enabled 12 = .ok (.if_icmp .ge 28, 3) := by decide +kernel
theorem dX3_enabled_15 : decode cX3_enabled 15 = .ok (.aload_n 0, 1) := by decide +kernel
theorem dX3_enabled_16 : decode cX3_enabled 16 = .ok (.getfield 10, 3) := by decide +kernel
theorem dX3_enabled_19 : decode cX3_enabled 19 = .ok (.iload_n 1, 1) := by decide +kernel
theorem dX3_enabled_20 : decode cX3_enabled 20 = .ok (.iload_n 3, 1) := by decide +kernel
theorem dX3_enabled_21 : decode cX3_enabled 21 = .ok (.invokevirtual 55, 3) := by decide +kernel
theorem dX3_enabled_24 : decode cX3_enabled 24 = .ok (.iconst (-1), 1) := by decide +kernel
theorem dX3_enabled_25 : decode cX3_enabled 25 = .ok (.if_icmp .eq 9, 3) := by decide +kernel
theorem dX3_enabled_28 : decode cX3_enabled 28 = .ok (.iload_n 2, 1) := by decide +kernel
theorem dX3_enabled_29 : decode cX3_enabled 29 = .ok (.iconst 1, 1) := by decide +kernel
theorem dX3_enabled_30 : decode cX3_enabled 30 = .ok (.iload_n 3, 1) := by decide +kernel
theorem dX3_enabled_31 : decode cX3_enabled 31 = .ok (.ishl, 1) := by decide +kernel
theorem dX3_enabled_32 : decode cX3_enabled 32 = .ok (.ior, 1) := by decide +kernel
theorem dX3_enabled_33 : decode cX3_enabled 33 = .ok (.istore_n 2, 1) := by decide +kernel
theorem dX3_enabled_34 : decode cX3_enabled 34 = .ok (.iinc 3 1, 3) := by decide +kernel
theorem dX3_enabled_37 : decode cX3_enabled 37 = .ok (.goto (-28), 3) := by decide +kernel
theorem dX3_enabled_40 : decode cX3_enabled 40 = .ok (.iload_n 2, 1) := by decide +kernel
theorem dX3_enabled_41 : decode cX3_enabled 41 = .ok (.ireturn, 1) := by decide +kernel
set_option maxRecDepth 20000 in
theorem ggX3_reached_X2_reachedStates : GoodIn wsX3_reached wsX2_reachedStates := goodIn_r _ [6, 7, 8, 9, 10, 5, 11, 12, 13, 14, 15, 19, 20, 21, 22, 23] (by decide +kernel) (by decide +kernel)
set_option maxRecDepth 20000 in
theorem gX3_reached_X2_reachedStates : GoodIn wsX3_reached (wsV RX3 78 RX2 yX2_reachedStates wsX2_reachedStates) := goodIn_app (goodIn_of _ (by decide +kernel)) ggX3_reached_X2_reachedStates
theorem dX3_reached_0 : decode cX3_reached 0 = .ok (.aload_n 0, 1) := by decide +kernel
theorem dX3_reached_1 : decode cX3_reached 1 = .ok (.getfield 10, 3) := by decide +kernel
theorem dX3_reached_4 : decode cX3_reached 4 = .ok (.invokevirtual 78, 3) := by decide +kernel
theorem dX3_reached_7 : decode cX3_reached 7 = .ok (.ireturn, 1) := by decide +kernel
set_option maxRecDepth 20000 in
theorem ggX3_distance_X3_needState : GoodIn wsX3_distance wsX3_needState := goodIn_ca (goodIn_r _ [6, 7, 8, 1, 22, 23, 24, 25, 26, 27, 28, 29] (by decide +kernel) (by decide +kernel)) (goodIn_sub (fun _ h => List.mem_cons_of_mem _ (List.mem_append_right _ h)) (by decide +kernel))
set_option maxRecDepth 20000 in
theorem gX3_distance_X3_needState : GoodIn wsX3_distance (wsV RX3 48 RX3 yX3_needState wsX3_needState) := goodIn_app (goodIn_of _ (by decide +kernel)) ggX3_distance_X3_needState
set_option maxRecDepth 20000 in
theorem ggX3_distance_X2_distanceTo : GoodIn wsX3_distance wsX2_distanceTo := goodIn_r _ [13, 14, 15, 5, 16, 17, 18, 19, 12, 20, 21, 25, 26, 27, 28, 29] (by decide +kernel) (by decide +kernel)
set_option maxRecDepth 20000 in
theorem gX3_distance_X2_distanceTo : GoodIn wsX3_distance (wsV RX3 82 RX2 yX2_distanceTo wsX2_distanceTo) := goodIn_app (goodIn_of _ (by decide +kernel)) ggX3_distance_X2_distanceTo
theorem dX3_distance_0 : decode cX3_distance 0 = .ok (.aload_n 0, 1) := by decide +kernel
theorem dX3_distance_1 : decode cX3_distance 1 = .ok (.iload_n 1, 1) := by decide +kernel
theorem dX3_distance_2 : decode cX3_distance 2 = .ok (.invokevirtual 48, 3) := by decide +kernel
theorem dX3_distance_5 : decode cX3_distance 5 = .ok (.aload_n 0, 1) := by decide +kernel
theorem dX3_distance_6 : decode cX3_distance 6 = .ok (.getfield 10, 3) := by decide +kernel
theorem dX3_distance_9 : decode cX3_distance 9 = .ok (.iload_n 1, 1) := by decide +kernel
theorem dX3_distance_10 : decode cX3_distance 10 = .ok (.invokevirtual 82, 3) := by decide +kernel
theorem dX3_distance_13 : decode cX3_distance 13 = .ok (.ireturn, 1) := by decide +kernel
set_option maxRecDepth 20000 in
theorem ggX3_crossing_X3_needSet : GoodIn wsX3_crossing wsX3_needSet := goodIn_ca (goodIn_r _ [6, 7, 8, 1, 9, 10, 11, 12, 13, 14, 27, 28, 29, 30, 31, 32, 33, 34] (by decide +kernel) (by decide +kernel)) (goodIn_sub (fun _ h => List.mem_cons_of_mem _ (List.mem_append_left _ (List.mem_append_right _ h))) (by decide +kernel))
set_option maxRecDepth 20000 in
theorem gX3_crossing_X3_needSet : GoodIn wsX3_crossing (wsV RX3 85 RX3 yX3_needSet wsX3_needSet) := goodIn_app (goodIn_of _ (by decide +kernel)) ggX3_crossing_X3_needSet
set_option maxRecDepth 20000 in
theorem ggX3_crossing_X3_needLabel : GoodIn wsX3_crossing wsX3_needLabel := goodIn_ca (goodIn_r _ [17, 18, 19] (by decide +kernel) (by decide +kernel)) (goodIn_sub (fun _ h => List.mem_cons_of_mem _ (List.mem_append_right _ h)) (by decide +kernel))
set_option maxRecDepth 20000 in
theorem gX3_crossing_X3_needLabel : GoodIn wsX3_crossing (va_wsS RX3 52 yX3_needLabel wsX3_needLabel) := goodIn_app (goodIn_of _ (by decide +kernel)) ggX3_crossing_X3_needLabel
set_option maxRecDepth 20000 in
theorem ggX3_crossing_X2_way : GoodIn wsX3_crossing wsX2_way := goodIn_r _ [23, 24, 25, 26, 30, 31, 32, 33, 34] (by decide +kernel) (by decide +kernel)
set_option maxRecDepth 20000 in
theorem gX3_crossing_X2_way : GoodIn wsX3_crossing (wsV RX3 88 RX2 yX2_way wsX2_way) := goodIn_app (goodIn_of _ (by decide +kernel)) ggX3_crossing_X2_way
theorem dX3_crossing_0 : decode cX3_crossing 0 = .ok (.aload_n 0, 1) := by decide +kernel
theorem dX3_crossing_1 : decode cX3_crossing 1 = .ok (.iload_n 1, 1) := by decide +kernel
theorem dX3_crossing_2 : decode cX3_crossing 2 = .ok (.invokevirtual 85, 3) := by decide +kernel
theorem dX3_crossing_5 : decode cX3_crossing 5 = .ok (.iload_n 2, 1) := by decide +kernel
theorem dX3_crossing_6 : decode cX3_crossing 6 = .ok (.invokestatic 52, 3) := by decide +kernel
theorem dX3_crossing_9 : decode cX3_crossing 9 = .ok (.aload_n 0, 1) := by decide +kernel
theorem dX3_crossing_10 : decode cX3_crossing 10 = .ok (.getfield 10, 3) := by decide +kernel
theorem dX3_crossing_13 : decode cX3_crossing 13 = .ok (.iload_n 1, 1) := by decide +kernel
theorem dX3_crossing_14 : decode cX3_crossing 14 = .ok (.iload_n 2, 1) := by decide +kernel
theorem dX3_crossing_15 : decode cX3_crossing 15 = .ok (.invokevirtual 88, 3) := by decide +kernel
theorem dX3_crossing_18 : decode cX3_crossing 18 = .ok (.ireturn, 1) := by decide +kernel
set_option maxRecDepth 20000 in
theorem ggX3_isRegion_X3_needSet : GoodIn wsX3_isRegion wsX3_needSet := goodIn_ca (goodIn_r _ [6, 7, 8, 9, 10, 11, 12, 13, 14, 15, 34, 35, 36, 37, 38, 39, 40, 41] (by decide +kernel) (by decide +kernel)) (goodIn_sub (fun _ h => List.mem_cons_of_mem _ (List.mem_append_right _ h)) (by decide +kernel))
set_option maxRecDepth 20000 in
theorem gX3_isRegion_X3_needSet : GoodIn wsX3_isRegion (wsV RX3 85 RX3 yX3_needSet wsX3_needSet) := goodIn_app (goodIn_of _ (by decide +kernel)) ggX3_isRegion_X3_needSet
set_option maxRecDepth 20000 in
theorem ggX3_isRegion_X1_isOne : GoodIn wsX3_isRegion wsX1_isOne := goodIn_r _ [20, 21, 22, 11, 12, 13, 14, 15, 23, 24, 25, 26, 27, 28, 29, 30, 31, 32, 33, 42, 43, 44, 45, 37, 38, 39, 40, 41] (by decide +kernel) (by decide +kernel)
set_option maxRecDepth 20000 in
theorem gX3_isRegion_X1_isOne : GoodIn wsX3_isRegion (wsV RX3 91 RX1 yX1_isOne wsX1_isOne) := goodIn_app (goodIn_of _ (by decide +kernel)) ggX3_isRegion_X1_isOne
theorem dX3_isRegion_0 : decode cX3_isRegion 0 = .ok (.aload_n 0, 1) := by decide +kernel
theorem dX3_isRegion_1 : decode cX3_isRegion 1 = .ok (.iload_n 1, 1) := by decide +kernel
theorem dX3_isRegion_2 : decode cX3_isRegion 2 = .ok (.invokevirtual 85, 3) := by decide +kernel
theorem dX3_isRegion_5 : decode cX3_isRegion 5 = .ok (.aload_n 0, 1) := by decide +kernel
theorem dX3_isRegion_6 : decode cX3_isRegion 6 = .ok (.getfield 21, 3) := by decide +kernel
theorem dX3_isRegion_9 : decode cX3_isRegion 9 = .ok (.iload_n 1, 1) := by decide +kernel
theorem dX3_isRegion_10 : decode cX3_isRegion 10 = .ok (.invokevirtual 91, 3) := by decide +kernel
theorem dX3_isRegion_13 : decode cX3_isRegion 13 = .ok (.ireturn, 1) := by decide +kernel
set_option maxRecDepth 20000 in
theorem ggX3_regionCount_X1_count : GoodIn wsX3_regionCount wsX1_count := goodIn_r _ [6, 7, 8, 9, 10, 11, 5, 12, 13, 14, 15, 16, 17, 18, 19, 20, 21, 22, 23, 24, 25, 26, 27, 28, 29, 30, 31, 35, 36, 37, 38, 39, 40, 41, 42, 43] (by decide +kernel) (by decide +kernel)
set_option maxRecDepth 20000 in
theorem gX3_regionCount_X1_count : GoodIn wsX3_regionCount (wsV RX3 95 RX1 yX1_count wsX1_count) := goodIn_app (goodIn_of _ (by decide +kernel)) ggX3_regionCount_X1_count
theorem dX3_regionCount_0 : decode cX3_regionCount 0 = .ok (.aload_n 0, 1) := by decide +kernel
theorem dX3_regionCount_1 : decode cX3_regionCount 1 = .ok (.getfield 21, 3) := by decide +kernel
theorem dX3_regionCount_4 : decode cX3_regionCount 4 = .ok (.invokevirtual 95, 3) := by decide +kernel
theorem dX3_regionCount_7 : decode cX3_regionCount 7 = .ok (.ireturn, 1) := by decide +kernel
set_option maxRecDepth 20000 in
theorem ggX3_region_X3_needRegion : GoodIn wsX3_region wsX3_needRegion := goodIn_ca (goodIn_r _ [6, 7, 8, 1, 9, 10, 11, 12, 13, 14, 15, 16, 17, 18, 19, 20, 21, 22, 23, 24, 25, 26, 27, 28, 29, 30, 31, 32, 33, 34, 35, 36, 37, 38, 43, 44, 45, 46, 47, 48, 49, 50, 51, 52, 53, 54] (by decide +kernel) (by decide +kernel)) (goodIn_sub (fun _ h => List.mem_cons_of_mem _ (List.mem_append_right _ h)) (by decide +kernel))
set_option maxRecDepth 20000 in
theorem gX3_region_X3_needRegion : GoodIn wsX3_region (wsV RX3 98 RX3 yX3_needRegion wsX3_needRegion) := goodIn_app (goodIn_of _ (by decide +kernel)) ggX3_region_X3_needRegion
set_option maxRecDepth 20000 in
theorem ggX3_region_X1_at : GoodIn wsX3_region wsX1_at := goodIn_r _ [42, 21, 46, 47, 48, 49] (by decide +kernel) (by decide +kernel)
set_option maxRecDepth 20000 in
theorem gX3_region_X1_at : GoodIn wsX3_region (wsV RX3 101 RX1 yX1_at wsX1_at) := goodIn_app (goodIn_of _ (by decide +kernel)) ggX3_region_X1_at
theorem dX3_region_0 : decode cX3_region 0 = .ok (.aload_n 0, 1) := by decide +kernel
theorem dX3_region_1 : decode cX3_region 1 = .ok (.iload_n 1, 1) := by decide +kernel
theorem dX3_region_2 : decode cX3_region 2 = .ok (.invokevirtual 98, 3) := by decide +kernel
theorem dX3_region_5 : decode cX3_region 5 = .ok (.aload_n 0, 1) := by decide +kernel
theorem dX3_region_6 : decode cX3_region 6 = .ok (.getfield 21, 3) := by decide +kernel
theorem dX3_region_9 : decode cX3_region 9 = .ok (.iload_n 1, 1) := by decide +kernel
theorem dX3_region_10 : decode cX3_region 10 = .ok (.invokevirtual 101, 3) := by decide +kernel
theorem dX3_region_13 : decode cX3_region 13 = .ok (.ireturn, 1) := by decide +kernel
set_option maxRecDepth 20000 in
theorem ggX3_isLeast_X3_needRegion : GoodIn wsX3_isLeast wsX3_needRegion := goodIn_ca (goodIn_r _ [6, 7, 8, 1, 9, 10, 11, 12, 13, 14, 15, 16, 17, 18, 19, 20, 21, 22, 23, 24, 25, 26, 27, 28, 29, 30, 31, 32, 33, 34, 35, 36, 37, 38, 43, 44, 45, 46, 47, 48, 49, 50, 51, 52, 53, 54] (by decide +kernel) (by decide +kernel)) (goodIn_sub (fun _ h => List.mem_cons_of_mem _ (List.mem_append_right _ h)) (by decide +kernel))
set_option maxRecDepth 20000 in
theorem gX3_isLeast_X3_needRegion : GoodIn wsX3_isLeast (wsV RX3 98 RX3 yX3_needRegion wsX3_needRegion) := goodIn_app (goodIn_of _ (by decide +kernel)) ggX3_isLeast_X3_needRegion
set_option maxRecDepth 20000 in
theorem ggX3_isLeast_X1_hasNoPart : GoodIn wsX3_isLeast wsX1_hasNoPart := goodIn_r _ [42, 21, 46, 47, 48, 49] (by decide +kernel) (by decide +kernel)
set_option maxRecDepth 20000 in
theorem gX3_isLeast_X1_hasNoPart : GoodIn wsX3_isLeast (wsV RX3 104 RX1 yX1_hasNoPart wsX1_hasNoPart) := goodIn_app (goodIn_of _ (by decide +kernel)) ggX3_isLeast_X1_hasNoPart
theorem dX3_isLeast_0 : decode cX3_isLeast 0 = .ok (.aload_n 0, 1) := by decide +kernel
theorem dX3_isLeast_1 : decode cX3_isLeast 1 = .ok (.iload_n 1, 1) := by decide +kernel
theorem dX3_isLeast_2 : decode cX3_isLeast 2 = .ok (.invokevirtual 98, 3) := by decide +kernel
theorem dX3_isLeast_5 : decode cX3_isLeast 5 = .ok (.aload_n 0, 1) := by decide +kernel
theorem dX3_isLeast_6 : decode cX3_isLeast 6 = .ok (.getfield 21, 3) := by decide +kernel
theorem dX3_isLeast_9 : decode cX3_isLeast 9 = .ok (.iload_n 1, 1) := by decide +kernel
theorem dX3_isLeast_10 : decode cX3_isLeast 10 = .ok (.invokevirtual 104, 3) := by decide +kernel
theorem dX3_isLeast_13 : decode cX3_isLeast 13 = .ok (.ireturn, 1) := by decide +kernel
set_option maxRecDepth 20000 in
theorem ggX3_grow_X3_needSet : GoodIn wsX3_grow wsX3_needSet := goodIn_ca (goodIn_r _ [6, 7, 8, 1, 9, 10, 11, 12, 13, 14, 39, 40, 41, 42, 43, 44, 45, 46] (by decide +kernel) (by decide +kernel)) (goodIn_sub (fun _ h => List.mem_cons_of_mem _ (List.mem_append_right _ h)) (by decide +kernel))
set_option maxRecDepth 20000 in
theorem gX3_grow_X3_needSet : GoodIn wsX3_grow (wsV RX3 85 RX3 yX3_needSet wsX3_needSet) := goodIn_app (goodIn_of _ (by decide +kernel)) ggX3_grow_X3_needSet
set_option maxRecDepth 20000 in
theorem ggX3_grow_X2_grown : GoodIn wsX3_grow wsX2_grown := goodIn_r _ [18, 19, 20, 21, 12, 22, 23, 24, 25, 26, 27, 28, 29, 30, 31, 32, 33, 34, 35, 36, 37, 14, 38, 42, 43, 44, 45, 46] (by decide +kernel) (by decide +kernel)
set_option maxRecDepth 20000 in
theorem gX3_grow_X2_grown : GoodIn wsX3_grow (wsV RX3 107 RX2 yX2_grown wsX2_grown) := goodIn_app (goodIn_of _ (by decide +kernel)) ggX3_grow_X2_grown
theorem dX3_grow_0 : decode cX3_grow 0 = .ok (.aload_n 0, 1) := by decide +kernel
theorem dX3_grow_1 : decode cX3_grow 1 = .ok (.iload_n 1, 1) := by decide +kernel
theorem dX3_grow_2 : decode cX3_grow 2 = .ok (.invokevirtual 85, 3) := by decide +kernel
theorem dX3_grow_5 : decode cX3_grow 5 = .ok (.aload_n 0, 1) := by decide +kernel
theorem dX3_grow_6 : decode cX3_grow 6 = .ok (.getfield 10, 3) := by decide +kernel
theorem dX3_grow_9 : decode cX3_grow 9 = .ok (.iload_n 1, 1) := by decide +kernel
theorem dX3_grow_10 : decode cX3_grow 10 = .ok (.invokevirtual 107, 3) := by decide +kernel
theorem dX3_grow_13 : decode cX3_grow 13 = .ok (.ireturn, 1) := by decide +kernel
set_option maxRecDepth 20000 in
theorem ggX3_apart_X3_needState : GoodIn wsX3_apart wsX3_needState := goodIn_ca (goodIn_r _ [6, 7, 8, 9, 46, 47, 48, 49, 50, 51, 52, 53] (by decide +kernel) (by decide +kernel)) (goodIn_sub (fun _ h => List.mem_cons_of_mem _ (List.mem_append_right _ h)) (by decide +kernel))
set_option maxRecDepth 20000 in
theorem gX3_apart_X3_needState : GoodIn wsX3_apart (wsV RX3 48 RX3 yX3_needState wsX3_needState) := goodIn_app (goodIn_of _ (by decide +kernel)) ggX3_apart_X3_needState
set_option maxRecDepth 20000 in
theorem ggX3_apart_X1_firstApart : GoodIn wsX3_apart wsX1_firstApart := goodIn_r _ [14, 15, 16, 17, 18, 13, 19, 20, 21, 22, 23, 24, 25, 26, 27, 28, 29, 30, 31, 32, 33, 34, 35, 36, 37, 38, 39, 40, 41, 42, 43, 44, 5, 45, 54, 55, 56, 57, 49, 50, 51, 52, 53] (by decide +kernel) (by decide +kernel)
