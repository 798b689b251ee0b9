theorem dX2_learnHalf_11 : decode cX2_learnHalf 11 = .ok (.iload_n 2, 1) := by decide +kernel
theorem dX2_learnHalf_12 : decode cX2_learnHalf 12 = .ok (.iload 4, 2) := by decide +kernel
theorem dX2_learnHalf_14 : decode cX2_learnHalf 14 = .ok (.iadd, 1) := by decide +kernel
theorem dX2_learnHalf_15 : decode cX2_learnHalf 15 = .ok (.iload_n 1, 1) := by decide +kernel
theorem dX2_learnHalf_16 : decode cX2_learnHalf 16 = .ok (.invokevirtual 42, 3) := by decide +kernel
theorem dX2_learnHalf_19 : decode cX2_learnHalf 19 = .ok (.istore 5, 2) := by decide +kernel
theorem dX2_learnHalf_21 : decode cX2_learnHalf 21 = .ok (.iconst 1, 1) := by decide +kernel
theorem dX2_learnHalf_22 : decode cX2_learnHalf 22 = .ok (.iload 4, 2) := by decide +kernel
theorem dX2_learnHalf_24 : decode cX2_learnHalf 24 = .ok (.ishl, 1) := by decide +kernel
theorem dX2_learnHalf_25 : decode cX2_learnHalf 25 = .ok (.istore 6, 2) := by decide +kernel
theorem dX2_learnHalf_27 : decode cX2_learnHalf 27 = .ok (.iconst 0, 1) := by decide +kernel
theorem dX2_learnHalf_28 : decode cX2_learnHalf 28 = .ok (.istore 7, 2) := by decide +kernel
theorem dX2_learnHalf_30 : decode cX2_learnHalf 30 = .ok (.iload 7, 2) := by decide +kernel
theorem dX2_learnHalf_32 : decode cX2_learnHalf 32 = .ok (.iload 6, 2) := by decide +kernel
theorem dX2_learnHalf_34 : decode cX2_learnHalf 34 = .ok (.if_icmp .ge 23, 3) := by decide +kernel
theorem dX2_learnHalf_37 : decode cX2_learnHalf 37 = .ok (.aload_n 3, 1) := by decide +kernel
theorem dX2_learnHalf_38 : decode cX2_learnHalf 38 = .ok (.iload 6, 2) := by decide +kernel
theorem dX2_learnHalf_40 : decode cX2_learnHalf 40 = .ok (.iload 7, 2) := by decide +kernel
theorem dX2_learnHalf_42 : decode cX2_learnHalf 42 = .ok (.ior, 1) := by decide +kernel
theorem dX2_learnHalf_43 : decode cX2_learnHalf 43 = .ok (.aload_n 3, 1) := by decide +kernel
theorem dX2_learnHalf_44 : decode cX2_learnHalf 44 = .ok (.iload 7, 2) := by decide +kernel
theorem dX2_learnHalf_46 : decode cX2_learnHalf 46 = .ok (.iaload, 1) := by decide +kernel
theorem dX2_learnHalf_47 : decode cX2_learnHalf 47 = .ok (.iload 5, 2) := by decide +kernel
theorem dX2_learnHalf_49 : decode cX2_learnHalf 49 = .ok (.ior, 1) := by decide +kernel
theorem dX2_learnHalf_50 : decode cX2_learnHalf 50 = .ok (.iastore, 1) := by decide +kernel
theorem dX2_learnHalf_51 : decode cX2_learnHalf 51 = .ok (.iinc 7 1, 3) := by decide +kernel
theorem dX2_learnHalf_54 : decode cX2_learnHalf 54 = .ok (.goto (-24), 3) := by decide +kernel
theorem dX2_learnHalf_57 : decode cX2_learnHalf 57 = .ok (.iinc 4 1, 3) := by decide +kernel
theorem dX2_learnHalf_60 : decode cX2_learnHalf 60 = .ok (.goto (-57), 3) := by decide +kernel
theorem dX2_learnHalf_63 : decode cX2_learnHalf 63 = .ok (.return_, 1) := by decide +kernel
theorem dX2_beginsOfStepsTo_0 : decode cX2_beginsOfStepsTo 0 = .ok (.iconst 0, 1) := by decide +kernel
theorem dX2_beginsOfStepsTo_1 : decode cX2_beginsOfStepsTo 1 = .ok (.istore_n 3, 1) := by decide +kernel
theorem dX2_beginsOfStepsTo_2 : decode cX2_beginsOfStepsTo 2 = .ok (.iconst 0, 1) := by decide +kernel
theorem dX2_beginsOfStepsTo_3 : decode cX2_beginsOfStepsTo 3 = .ok (.istore 4, 2) := by decide +kernel
theorem dX2_beginsOfStepsTo_5 : decode cX2_beginsOfStepsTo 5 = .ok (.iload 4, 2) := by decide +kernel
theorem dX2_beginsOfStepsTo_7 : decode cX2_beginsOfStepsTo 7 = .ok (.aload_n 0, 1) := by decide +kernel
theorem dX2_beginsOfStepsTo_8 : decode cX2_beginsOfStepsTo 8 = .ok (.getfield 9, 3) := by decide +kernel
theorem dX2_beginsOfStepsTo_11 : decode cX2_beginsOfStepsTo 11 = .ok (.if_icmp .ge 29, 3) := by decide +kernel
theorem dX2_beginsOfStepsTo_14 : decode cX2_beginsOfStepsTo 14 = .ok (.aload_n 0, 1) := by decide +kernel
theorem dX2_beginsOfStepsTo_15 : decode cX2_beginsOfStepsTo 15 = .ok (.getfield 17, 3) := by decide +kernel
theorem dX2_beginsOfStepsTo_18 : decode cX2_beginsOfStepsTo 18 = .ok (.iload_n 2, 1) := by decide +kernel
theorem dX2_beginsOfStepsTo_19 : decode cX2_beginsOfStepsTo 19 = .ok (.aaload, 1) := by decide +kernel
theorem dX2_beginsOfStepsTo_20 : decode cX2_beginsOfStepsTo 20 = .ok (.iload 4, 2) := by decide +kernel
theorem dX2_beginsOfStepsTo_22 : decode cX2_beginsOfStepsTo 22 = .ok (.iaload, 1) := by decide +kernel
theorem dX2_beginsOfStepsTo_23 : decode cX2_beginsOfStepsTo 23 = .ok (.iload_n 1, 1) := by decide +kernel
theorem dX2_beginsOfStepsTo_24 : decode cX2_beginsOfStepsTo 24 = .ok (.if_icmp .ne 10, 3) := by decide +kernel
theorem dX2_beginsOfStepsTo_27 : decode cX2_beginsOfStepsTo 27 = .ok (.iload_n 3, 1) := by decide +kernel
theorem dX2_beginsOfStepsTo_28 : decode cX2_beginsOfStepsTo 28 = .ok (.iconst 1, 1) := by decide +kernel
theorem dX2_beginsOfStepsTo_29 : decode cX2_beginsOfStepsTo 29 = .ok (.iload 4, 2) := by decide +kernel
theorem dX2_beginsOfStepsTo_31 : decode cX2_beginsOfStepsTo 31 = .ok (.ishl, 1) := by decide +kernel
theorem dX2_beginsOfStepsTo_32 : decode cX2_beginsOfStepsTo 32 = .ok (.ior, 1) := by decide +kernel
theorem dX2_beginsOfStepsTo_33 : decode cX2_beginsOfStepsTo 33 = .ok (.istore_n 3, 1) := by decide +kernel
theorem dX2_beginsOfStepsTo_34 : decode cX2_beginsOfStepsTo 34 = .ok (.iinc 4 1, 3) := by decide +kernel
theorem dX2_beginsOfStepsTo_37 : decode cX2_beginsOfStepsTo 37 = .ok (.goto (-32), 3) := by decide +kernel
theorem dX2_beginsOfStepsTo_40 : decode cX2_beginsOfStepsTo 40 = .ok (.iload_n 3, 1) := by decide +kernel
theorem dX2_beginsOfStepsTo_41 : decode cX2_beginsOfStepsTo 41 = .ok (.ireturn, 1) := by decide +kernel
theorem dX2_way_0 : decode cX2_way 0 = .ok (.aload_n 0, 1) := by decide +kernel
theorem dX2_way_1 : decode cX2_way 1 = .ok (.getfield 20, 3) := by decide +kernel
theorem dX2_way_4 : decode cX2_way 4 = .ok (.iload_n 2, 1) := by decide +kernel
theorem dX2_way_5 : decode cX2_way 5 = .ok (.iaload, 1) := by decide +kernel
theorem dX2_way_6 : decode cX2_way 6 = .ok (.istore_n 3, 1) := by decide +kernel
theorem dX2_way_7 : decode cX2_way 7 = .ok (.iload_n 3, 1) := by decide +kernel
theorem dX2_way_8 : decode cX2_way 8 = .ok (.iload_n 1, 1) := by decide +kernel
theorem dX2_way_9 : decode cX2_way 9 = .ok (.iand, 1) := by decide +kernel
theorem dX2_way_10 : decode cX2_way 10 = .ok (.istore 4, 2) := by decide +kernel
theorem dX2_way_12 : decode cX2_way 12 = .ok (.aload_n 0, 1) := by decide +kernel
theorem dX2_way_13 : decode cX2_way 13 = .ok (.getfield 24, 3) := by decide +kernel
theorem dX2_way_16 : decode cX2_way 16 = .ok (.iload_n 2, 1) := by decide +kernel
theorem dX2_way_17 : decode cX2_way 17 = .ok (.aaload, 1) := by decide +kernel
theorem dX2_way_18 : decode cX2_way 18 = .ok (.iload_n 1, 1) := by decide +kernel
theorem dX2_way_19 : decode cX2_way 19 = .ok (.bipush 63, 2) := by decide +kernel
theorem dX2_way_21 : decode cX2_way 21 = .ok (.iand, 1) := by decide +kernel
theorem dX2_way_22 : decode cX2_way 22 = .ok (.iaload, 1) := by decide +kernel
theorem dX2_way_23 : decode cX2_way 23 = .ok (.aload_n 0, 1) := by decide +kernel
theorem dX2_way_24 : decode cX2_way 24 = .ok (.getfield 27, 3) := by decide +kernel
theorem dX2_way_27 : decode cX2_way 27 = .ok (.iload_n 2, 1) := by decide +kernel
theorem dX2_way_28 : decode cX2_way 28 = .ok (.aaload, 1) := by decide +kernel
theorem dX2_way_29 : decode cX2_way 29 = .ok (.iload_n 1, 1) := by decide +kernel
theorem dX2_way_30 : decode cX2_way 30 = .ok (.bipush 6, 2) := by decide +kernel
theorem dX2_way_32 : decode cX2_way 32 = .ok (.ishr, 1) := by decide +kernel
theorem dX2_way_33 : decode cX2_way 33 = .ok (.bipush 63, 2) := by decide +kernel
theorem dX2_way_35 : decode cX2_way 35 = .ok (.iand, 1) := by decide +kernel
theorem dX2_way_36 : decode cX2_way 36 = .ok (.iaload, 1) := by decide +kernel
theorem dX2_way_37 : decode cX2_way 37 = .ok (.ior, 1) := by decide +kernel
theorem dX2_way_38 : decode cX2_way 38 = .ok (.istore 5, 2) := by decide +kernel
theorem dX2_way_40 : decode cX2_way 40 = .ok (.iload 4, 2) := by decide +kernel
theorem dX2_way_42 : decode cX2_way 42 = .ok (.iload 5, 2) := by decide +kernel
theorem dX2_way_44 : decode cX2_way 44 = .ok (.if_icmp .ne 5, 3) := by decide +kernel
theorem dX2_way_47 : decode cX2_way 47 = .ok (.iconst 0, 1) := by decide +kernel
theorem dX2_way_48 : decode cX2_way 48 = .ok (.ireturn, 1) := by decide +kernel
theorem dX2_way_49 : decode cX2_way 49 = .ok (.iload 4, 2) := by decide +kernel
theorem dX2_way_51 : decode cX2_way 51 = .ok (.ifCond .ne 11, 3) := by decide +kernel
theorem dX2_way_54 : decode cX2_way 54 = .ok (.iload 5, 2) := by decide +kernel
theorem dX2_way_56 : decode cX2_way 56 = .ok (.iload_n 3, 1) := by decide +kernel
theorem dX2_way_57 : decode cX2_way 57 = .ok (.if_icmp .ne 5, 3) := by decide +kernel
theorem dX2_way_60 : decode cX2_way 60 = .ok (.iconst 1, 1) := by decide +kernel
theorem dX2_way_61 : decode cX2_way 61 = .ok (.ireturn, 1) := by decide +kernel
theorem dX2_way_62 : decode cX2_way 62 = .ok (.iload 5, 2) := by decide +kernel
theorem dX2_way_64 : decode cX2_way 64 = .ok (.ifCond .ne 11, 3) := by decide +kernel
theorem dX2_way_67 : decode cX2_way 67 = .ok (.iload 4, 2) := by decide +kernel
theorem dX2_way_69 : decode cX2_way 69 = .ok (.iload_n 3, 1) := by decide +kernel
theorem dX2_way_70 : decode cX2_way 70 = .ok (.if_icmp .ne 5, 3) := by decide +kernel
theorem dX2_way_73 : decode cX2_way 73 = .ok (.iconst 2, 1) := by decide +kernel
theorem dX2_way_74 : decode cX2_way 74 = .ok (.ireturn, 1) := by decide +kernel
theorem dX2_way_75 : decode cX2_way 75 = .ok (.iconst 3, 1) := by decide +kernel
theorem dX2_way_76 : decode cX2_way 76 = .ok (.ireturn, 1) := by decide +kernel
set_option maxRecDepth 20000 in
theorem ggX2_firstMixed_X2_way : GoodIn wsX2_firstMixed wsX2_way := goodIn_r _ [5, 6, 7, 8, 9, 10, 11, 12, 13] (by decide +kernel) (by decide +kernel)
set_option maxRecDepth 20000 in
theorem gX2_firstMixed_X2_way : GoodIn wsX2_firstMixed (wsV RX2 46 RX2 yX2_way wsX2_way) := goodIn_app (goodIn_of _ (by decide +kernel)) ggX2_firstMixed_X2_way
theorem dX2_firstMixed_0 : decode cX2_firstMixed 0 = .ok (.iconst 0, 1) := by decide +kernel
theorem dX2_firstMixed_1 : decode cX2_firstMixed 1 = .ok (.istore_n 2, 1) := by decide +kernel
theorem dX2_firstMixed_2 : decode cX2_firstMixed 2 = .ok (.iload_n 2, 1) := by decide +kernel
theorem dX2_firstMixed_3 : decode cX2_firstMixed 3 = .ok (.bipush 6, 2) := by decide +kernel
theorem dX2_firstMixed_5 : decode cX2_firstMixed 5 = .ok (.if_icmp .ge 21, 3) := by decide +kernel
theorem dX2_firstMixed_8 : decode cX2_firstMixed 8 = .ok (.aload_n 0, 1) := by decide +kernel
theorem dX2_firstMixed_9 : decode cX2_firstMixed 9 = .ok (.iload_n 1, 1) := by decide +kernel
theorem dX2_firstMixed_10 : decode cX2_firstMixed 10 = .ok (.iload_n 2, 1) := by decide +kernel
theorem dX2_firstMixed_11 : decode cX2_firstMixed 11 = .ok (.invokevirtual 46, 3) := by decide +kernel
theorem dX2_firstMixed_14 : decode cX2_firstMixed 14 = .ok (.iconst 3, 1) := by decide +kernel
theorem dX2_firstMixed_15 : decode cX2_firstMixed 15 = .ok (.if_icmp .ne 5, 3) := by decide +kernel
theorem dX2_firstMixed_18 : decode cX2_firstMixed 18 = .ok (.iload_n 2, 1) := by decide +kernel
theorem dX2_firstMixed_19 : decode cX2_firstMixed 19 = .ok (.ireturn, 1) := by decide +kernel
theorem dX2_firstMixed_20 : decode cX2_firstMixed 20 = .ok (.iinc 2 1, 3) := by decide +kernel
theorem dX2_firstMixed_23 : decode cX2_firstMixed 23 = .ok (.goto (-21), 3) := by decide +kernel
theorem dX2_firstMixed_26 : decode cX2_firstMixed 26 = .ok (.iconst (-1), 1) := by decide +kernel
theorem dX2_firstMixed_27 : decode cX2_firstMixed 27 = .ok (.ireturn, 1) := by decide +kernel
set_option maxRecDepth 20000 in
theorem ggX2_grown_X2_firstMixed : GoodIn wsX2_grown wsX2_firstMixed := goodIn_r _ [5, 6, 7, 8, 4, 9, 10, 11, 12, 23, 24, 25, 26, 27] (by decide +kernel) (by decide +kernel)
set_option maxRecDepth 20000 in
theorem gX2_grown_X2_firstMixed : GoodIn wsX2_grown (wsV RX2 49 RX2 yX2_firstMixed wsX2_firstMixed) := goodIn_app (goodIn_of _ (by decide +kernel)) ggX2_grown_X2_firstMixed
set_option maxRecDepth 20000 in
theorem ggX2_grown_X2_growth : GoodIn wsX2_grown wsX2_growth := goodIn_r _ [16, 10, 17, 18, 19, 4, 20, 21, 22, 23, 24, 25, 26, 27] (by decide +kernel) (by decide +kernel)
set_option maxRecDepth 20000 in
theorem gX2_grown_X2_growth : GoodIn wsX2_grown (wsV RX2 53 RX2 yX2_growth wsX2_growth) := goodIn_app (goodIn_of _ (by decide +kernel)) ggX2_grown_X2_growth
theorem dX2_grown_0 : decode cX2_grown 0 = .ok (.iload_n 1, 1) := by decide +kernel
theorem dX2_grown_1 : decode cX2_grown 1 = .ok (.istore_n 2, 1) := by decide +kernel
theorem dX2_grown_2 : decode cX2_grown 2 = .ok (.iconst 0, 1) := by decide +kernel
theorem dX2_grown_3 : decode cX2_grown 3 = .ok (.istore_n 3, 1) := by decide +kernel
theorem dX2_grown_4 : decode cX2_grown 4 = .ok (.iload_n 3, 1) := by decide +kernel
theorem dX2_grown_5 : decode cX2_grown 5 = .ok (.bipush 12, 2) := by decide +kernel
theorem dX2_grown_7 : decode cX2_grown 7 = .ok (.if_icmp .ge 34, 3) := by decide +kernel
theorem dX2_grown_10 : decode cX2_grown 10 = .ok (.aload_n 0, 1) := by decide +kernel
theorem dX2_grown_11 : decode cX2_grown 11 = .ok (.iload_n 2, 1) := by decide +kernel
theorem dX2_grown_12 : decode cX2_grown 12 = .ok (.invokevirtual 49, 3) := by decide +kernel
theorem dX2_grown_15 : decode cX2_grown 15 = .ok (.istore 4, 2) := by decide +kernel
theorem dX2_grown_17 : decode cX2_grown 17 = .ok (.iload 4, 2) := by decide +kernel
theorem dX2_grown_19 : decode cX2_grown 19 = .ok (.iconst (-1), 1) := by decide +kernel
theorem dX2_grown_20 : decode cX2_grown 20 = .ok (.if_icmp .ne 5, 3) := by decide +kernel
theorem dX2_grown_23 : decode cX2_grown 23 = .ok (.iload_n 2, 1) := by decide +kernel
theorem dX2_grown_24 : decode cX2_grown 24 = .ok (.ireturn, 1) := by decide +kernel
theorem dX2_grown_25 : decode cX2_grown 25 = .ok (.iload_n 2, 1) := by decide +kernel
theorem dX2_grown_26 : decode cX2_grown 26 = .ok (.aload_n 0, 1) := by decide +kernel
theorem dX2_grown_27 : decode cX2_grown 27 = .ok (.iload_n 2, 1) := by decide +kernel
theorem dX2_grown_28 : decode cX2_grown 28 = .ok (.iload 4, 2) := by decide +kernel
theorem dX2_grown_30 : decode cX2_grown 30 = .ok (.invokevirtual 53, 3) := by decide +kernel
theorem dX2_grown_33 : decode cX2_grown 33 = .ok (.ior, 1) := by decide +kernel
theorem dX2_grown_34 : decode cX2_grown 34 = .ok (.istore_n 2, 1) := by decide +kernel
theorem dX2_grown_35 : decode cX2_grown 35 = .ok (.iinc 3 1, 3) := by decide +kernel
theorem dX2_grown_38 : decode cX2_grown 38 = .ok (.goto (-34), 3) := by decide +kernel
theorem dX2_grown_41 : decode cX2_grown 41 = .ok (.iload_n 2, 1) := by decide +kernel
theorem dX2_grown_42 : decode cX2_grown 42 = .ok (.ireturn, 1) := by decide +kernel
set_option maxRecDepth 20000 in
theorem ggX2_growth_X2_endsOf : GoodIn wsX2_growth wsX2_endsOf := goodIn_r _ [6, 7, 8, 9, 10, 11, 12, 13] (by decide +kernel) (by decide +kernel)
set_option maxRecDepth 20000 in
theorem gX2_growth_X2_endsOf : GoodIn wsX2_growth (wsV RX2 56 RX2 yX2_endsOf wsX2_endsOf) := goodIn_app (goodIn_of _ (by decide +kernel)) ggX2_growth_X2_endsOf
theorem dX2_growth_0 : decode cX2_growth 0 = .ok (.aload_n 0, 1) := by decide +kernel
theorem dX2_growth_1 : decode cX2_growth 1 = .ok (.getfield 20, 3) := by decide +kernel
theorem dX2_growth_4 : decode cX2_growth 4 = .ok (.iload_n 2, 1) := by decide +kernel
theorem dX2_growth_5 : decode cX2_growth 5 = .ok (.iaload, 1) := by decide +kernel
theorem dX2_growth_6 : decode cX2_growth 6 = .ok (.istore_n 3, 1) := by decide +kernel
theorem dX2_growth_7 : decode cX2_growth 7 = .ok (.aload_n 0, 1) := by decide +kernel
theorem dX2_growth_8 : decode cX2_growth 8 = .ok (.iload_n 2, 1) := by decide +kernel
theorem dX2_growth_9 : decode cX2_growth 9 = .ok (.invokevirtual 56, 3) := by decide +kernel
theorem dX2_growth_12 : decode cX2_growth 12 = .ok (.istore 4, 2) := by decide +kernel
theorem dX2_growth_14 : decode cX2_growth 14 = .ok (.iload_n 3, 1) := by decide +kernel
theorem dX2_growth_15 : decode cX2_growth 15 = .ok (.iload_n 1, 1) := by decide +kernel
theorem dX2_growth_16 : decode cX2_growth 16 = .ok (.iand, 1) := by decide +kernel
theorem dX2_growth_17 : decode cX2_growth 17 = .ok (.ifCond .eq 12, 3) := by decide +kernel
theorem dX2_growth_20 : decode cX2_growth 20 = .ok (.iload 4, 2) := by decide +kernel
theorem dX2_growth_22 : decode cX2_growth 22 = .ok (.iload_n 1, 1) := by decide +kernel
theorem dX2_growth_23 : decode cX2_growth 23 = .ok (.iand, 1) := by decide +kernel
theorem dX2_growth_24 : decode cX2_growth 24 = .ok (.ifCond .ne 5, 3) := by decide +kernel
theorem dX2_growth_27 : decode cX2_growth 27 = .ok (.iload_n 3, 1) := by decide +kernel
theorem dX2_growth_28 : decode cX2_growth 28 = .ok (.ireturn, 1) := by decide +kernel
theorem dX2_growth_29 : decode cX2_growth 29 = .ok (.iload 4, 2) := by decide +kernel
theorem dX2_growth_31 : decode cX2_growth 31 = .ok (.iload_n 1, 1) := by decide +kernel
theorem dX2_growth_32 : decode cX2_growth 32 = .ok (.iconst (-1), 1) := by decide +kernel
theorem dX2_growth_33 : decode cX2_growth 33 = .ok (.ixor, 1) := by decide +kernel
theorem dX2_growth_34 : decode cX2_growth 34 = .ok (.iand, 1) := by decide +kernel
theorem dX2_growth_35 : decode cX2_growth 35 = .ok (.ifCond .eq 8, 3) := by decide +kernel
theorem dX2_growth_38 : decode cX2_growth 38 = .ok (.iload 4, 2) := by decide +kernel
theorem dX2_growth_40 : decode cX2_growth 40 = .ok (.goto 4, 3) := by decide +kernel
theorem dX2_growth_43 : decode cX2_growth 43 = .ok (.iload_n 3, 1) := by decide +kernel
theorem dX2_growth_44 : decode cX2_growth 44 = .ok (.ireturn, 1) := by decide +kernel
theorem dX2_endsOf_0 : decode cX2_endsOf 0 = .ok (.iconst 0, 1) := by decide +kernel
theorem dX2_endsOf_1 : decode cX2_endsOf 1 = .ok (.istore_n 2, 1) := by decide +kernel
theorem dX2_endsOf_2 : decode cX2_endsOf 2 = .ok (.iconst 0, 1) := by decide +kernel
theorem dX2_endsOf_3 : decode cX2_endsOf 3 = .ok (.istore_n 3, 1) := by decide +kernel
theorem dX2_endsOf_4 : decode cX2_endsOf 4 = .ok (.iload_n 3, 1) := by decide +kernel
theorem dX2_endsOf_5 : decode cX2_endsOf 5 = .ok (.aload_n 0, 1) := by decide +kernel
theorem dX2_endsOf_6 : decode cX2_endsOf 6 = .ok (.getfield 9, 3) := by decide +kernel
theorem dX2_endsOf_9 : decode cX2_endsOf 9 = .ok (.if_icmp .ge 32, 3) := by decide +kernel
theorem dX2_endsOf_12 : decode cX2_endsOf 12 = .ok (.aload_n 0, 1) := by decide +kernel
theorem dX2_endsOf_13 : decode cX2_endsOf 13 = .ok (.getfield 17, 3) := by decide +kernel
theorem dX2_endsOf_16 : decode cX2_endsOf 16 = .ok (.iload_n 1, 1) := by decide +kernel
theorem dX2_endsOf_17 : decode cX2_endsOf 17 = .ok (.aaload, 1) := by decide +kernel
theorem dX2_endsOf_18 : decode cX2_endsOf 18 = .ok (.iload_n 3, 1) := by decide +kernel
theorem dX2_endsOf_19 : decode cX2_endsOf 19 = .ok (.iaload, 1) := by decide +kernel
theorem dX2_endsOf_20 : decode cX2_endsOf 20 = .ok (.istore 4, 2) := by decide +kernel
theorem dX2_endsOf_22 : decode cX2_endsOf 22 = .ok (.iload 4, 2) := by decide +kernel
theorem dX2_endsOf_24 : decode cX2_endsOf 24 = .ok (.iconst (-1), 1) := by decide +kernel
theorem dX2_endsOf_25 : decode cX2_endsOf 25 = .ok (.if_icmp .eq 10, 3) := by decide +kernel
theorem dX2_endsOf_28 : decode cX2_endsOf 28 = .ok (.iload_n 2, 1) := by decide +kernel
theorem dX2_endsOf_29 : decode cX2_endsOf 29 = .ok (.iconst 1, 1) := by decide +kernel
theorem dX2_endsOf_30 : decode cX2_endsOf 30 = .ok (.iload 4, 2) := by decide +kernel
theorem dX2_endsOf_32 : decode cX2_endsOf 32 = .ok (.ishl, 1) := by decide +kernel
theorem dX2_endsOf_33 : decode cX2_endsOf 33 = .ok (.ior, 1) := by decide +kernel
theorem dX2_endsOf_34 : decode cX2_endsOf 34 = .ok (.istore_n 2, 1) := by decide +kernel
theorem dX2_endsOf_35 : decode cX2_endsOf 35 = .ok (.iinc 3 1, 3) := by decide +kernel
theorem dX2_endsOf_38 : decode cX2_endsOf 38 = .ok (.goto (-34), 3) := by decide +kernel
theorem dX2_endsOf_41 : decode cX2_endsOf 41 = .ok (.iload_n 2, 1) := by decide +kernel
theorem dX2_endsOf_42 : decode cX2_endsOf 42 = .ok (.ireturn, 1) := by decide +kernel
set_option maxRecDepth 20000 in
theorem ggX2_reachedStates_X2_nextStates : GoodIn wsX2_reachedStates wsX2_nextStates := goodIn_r _ [6, 1, 7, 8, 9, 10, 11, 12, 13, 14, 15] (by decide +kernel) (by decide +kernel)
set_option maxRecDepth 20000 in
theorem gX2_reachedStates_X2_nextStates : GoodIn wsX2_reachedStates (wsV RX2 59 RX2 yX2_nextStates wsX2_nextStates) := goodIn_app (goodIn_of _ (by decide +kernel)) ggX2_reachedStates_X2_nextStates
theorem dX2_reachedStates_0 : decode cX2_reachedStates 0 = .ok (.iconst 1, 1) := by decide +kernel
theorem dX2_reachedStates_1 : decode cX2_reachedStates 1 = .ok (.istore_n 1, 1) := by decide +kernel
theorem dX2_reachedStates_2 : decode cX2_reachedStates 2 = .ok (.iconst 1, 1) := by decide +kernel
theorem dX2_reachedStates_3 : decode cX2_reachedStates 3 = .ok (.istore_n 2, 1) := by decide +kernel
theorem dX2_reachedStates_4 : decode cX2_reachedStates 4 = .ok (.iload_n 2, 1) := by decide +kernel
theorem dX2_reachedStates_5 : decode cX2_reachedStates 5 = .ok (.aload_n 0, 1) := by decide +kernel
theorem dX2_reachedStates_6 : decode cX2_reachedStates 6 = .ok (.getfield 9, 3) := by decide +kernel
theorem dX2_reachedStates_9 : decode cX2_reachedStates 9 = .ok (.if_icmp .ge 17, 3) := by decide +kernel
theorem dX2_reachedStates_12 : decode cX2_reachedStates 12 = .ok (.iload_n 1, 1) := by decide +kernel
theorem dX2_reachedStates_13 : decode cX2_reachedStates 13 = .ok (.aload_n 0, 1) := by decide +kernel
theorem dX2_reachedStates_14 : decode cX2_reachedStates 14 = .ok (.iload_n 1, 1) := by decide +kernel
theorem dX2_reachedStates_15 : decode cX2_reachedStates 15 = .ok (.invokevirtual 59, 3) := by decide +kernel
theorem dX2_reachedStates_18 : decode cX2_reachedStates 18 = .ok (.ior, 1) := by decide +kernel
theorem dX2_reachedStates_19 : decode cX2_reachedStates 19 = .ok (.istore_n 1, 1) := by decide +kernel
theorem dX2_reachedStates_20 : decode cX2_reachedStates 20 = .ok (.iinc 2 1, 3) := by decide +kernel
theorem dX2_reachedStates_23 : decode cX2_reachedStates 23 = .ok (.goto (-19), 3) := by decide +kernel
theorem dX2_reachedStates_26 : decode cX2_reachedStates 26 = .ok (.iload_n 1, 1) := by decide +kernel
theorem dX2_reachedStates_27 : decode cX2_reachedStates 27 = .ok (.ireturn, 1) := by decide +kernel
set_option maxRecDepth 20000 in
theorem ggX2_nextStates_X3_has : GoodIn wsX2_nextStates wsX3_has := goodIn_r _ [5] (by decide +kernel) (by decide +kernel)
set_option maxRecDepth 20000 in
theorem gX2_nextStates_X3_has_n62 : GoodIn wsX2_nextStates (wsX3_has) := ggX2_nextStates_X3_has
theorem dX2_nextStates_0 : decode cX2_nextStates 0 = .ok (.iconst 0, 1) := by decide +kernel
theorem dX2_nextStates_1 : decode cX2_nextStates 1 = .ok (.istore_n 2, 1) := by decide +kernel
theorem dX2_nextStates_2 : decode cX2_nextStates 2 = .ok (.iconst 0, 1) := by decide +kernel
theorem dX2_nextStates_3 : decode cX2_nextStates 3 = .ok (.istore_n 3, 1) := by decide +kernel
theorem dX2_nextStates_4 : decode cX2_nextStates 4 = .ok (.iload_n 3, 1) := by decide +kernel
theorem dX2_nextStates_5 : decode cX2_nextStates 5 = .ok (.bipush 6, 2) := by decide +kernel
theorem dX2_nextStates_7 : decode cX2_nextStates 7 = .ok (.if_icmp .ge 60, 3) := by decide +kernel
theorem dX2_nextStates_10 : decode cX2_nextStates 10 = .ok (.iconst 0, 1) := by decide +kernel
theorem dX2_nextStates_11 : decode cX2_nextStates 11 = .ok (.istore 4, 2) := by decide +kernel
theorem dX2_nextStates_13 : decode cX2_nextStates 13 = .ok (.iload 4, 2) := by decide +kernel
theorem dX2_nextStates_15 : decode cX2_nextStates 15 = .ok (.aload_n 0, 1) := by decide +kernel
theorem dX2_nextStates_16 : decode cX2_nextStates 16 = .ok (.getfield 9, 3) := by decide +kernel
theorem dX2_nextStates_19 : decode cX2_nextStates 19 = .ok (.if_icmp .ge 42, 3) := by decide +kernel
theorem dX2_nextStates_22 : decode cX2_nextStates 22 = .ok (.aload_n 0, 1) := by decide +kernel
theorem dX2_nextStates_23 : decode cX2_nextStates 23 = .ok (.getfield 17, 3) := by decide +kernel
theorem dX2_nextStates_26 : decode cX2_nextStates 26 = .ok (.iload_n 3, 1) := by decide +kernel
theorem dX2_nextStates_27 : decode cX2_nextStates 27 = .ok (.aaload, 1) := by decide +kernel
theorem dX2_nextStates_28 : decode cX2_nextStates 28 = .ok (.iload 4, 2) := by decide +kernel
theorem dX2_nextStates_30 : decode cX2_nextStates 30 = .ok (.iaload, 1) := by decide +kernel
theorem dX2_nextStates_31 : decode cX2_nextStates 31 = .ok (.istore 5, 2) := by decide +kernel
theorem dX2_nextStates_33 : decode cX2_nextStates 33 = .ok (.iload 5, 2) := by decide +kernel
theorem dX2_nextStates_35 : decode cX2_nextStates 35 = .ok (.iconst (-1), 1) := by decide +kernel
theorem dX2_nextStates_36 : decode cX2_nextStates 36 = .ok (.if_icmp .eq 19, 3) := by decide +kernel
theorem dX2_nextStates_39 : decode cX2_nextStates 39 = .ok (.iload_n 1, 1) := by decide +kernel
theorem dX2_nextStates_40 : decode cX2_nextStates 40 = .ok (.iload 4, 2) := by decide +kernel
theorem dX2_nextStates_42 : decode cX2_nextStates 42 = .ok (.invokestatic 62, 3) := by decide +kernel
theorem dX2_nextStates_45 : decode cX2_nextStates 45 = .ok (.ifCond .eq 10, 3) := by decide +kernel
theorem dX2_nextStates_48 : decode cX2_nextStates 48 = .ok (.iload_n 2, 1) := by decide +kernel
theorem dX2_nextStates_49 : decode cX2_nextStates 49 = .ok (.iconst 1, 1) := by decide +kernel
theorem dX2_nextStates_50 : decode cX2_nextStates 50 = .ok (.iload 5, 2) := by decide +kernel
theorem dX2_nextStates_52 : decode cX2_nextStates 52 = .ok (.ishl, 1) := by decide +kernel
theorem dX2_nextStates_53 : decode cX2_nextStates 53 = .ok (.ior, 1) := by decide +kernel
theorem dX2_nextStates_54 : decode cX2_nextStates 54 = .ok (.istore_n 2, 1) := by decide +kernel
theorem dX2_nextStates_55 : decode cX2_nextStates 55 = .ok (.iinc 4 1, 3) := by decide +kernel
theorem dX2_nextStates_58 : decode cX2_nextStates 58 = .ok (.goto (-45), 3) := by decide +kernel
theorem dX2_nextStates_61 : decode cX2_nextStates 61 = .ok (.iinc 3 1, 3) := by decide +kernel
theorem dX2_nextStates_64 : decode cX2_nextStates 64 = .ok (.goto (-60), 3) := by decide +kernel
theorem dX2_nextStates_67 : decode cX2_nextStates 67 = .ok (.iload_n 2, 1) := by decide +kernel
theorem dX2_nextStates_68 : decode cX2_nextStates 68 = .ok (.ireturn, 1) := by decide +kernel
theorem dX2_statePairs_0 : decode cX2_statePairs 0 = .ok (.aload_n 0, 1) := by decide +kernel
theorem dX2_statePairs_1 : decode cX2_statePairs 1 = .ok (.getfield 9, 3) := by decide +kernel
theorem dX2_statePairs_4 : decode cX2_statePairs 4 = .ok (.aload_n 0, 1) := by decide +kernel
theorem dX2_statePairs_5 : decode cX2_statePairs 5 = .ok (.getfield 9, 3) := by decide +kernel
theorem dX2_statePairs_8 : decode cX2_statePairs 8 = .ok (.iconst 1, 1) := by decide +kernel
theorem dX2_statePairs_9 : decode cX2_statePairs 9 = .ok (.isub, 1) := by decide +kernel
theorem dX2_statePairs_10 : decode cX2_statePairs 10 = .ok (.imul, 1) := by decide +kernel
theorem dX2_statePairs_11 : decode cX2_statePairs 11 = .ok (.iconst 2, 1) := by decide +kernel
theorem dX2_statePairs_12 : decode cX2_statePairs 12 = .ok (.idiv, 1) := by decide +kernel
theorem dX2_statePairs_13 : decode cX2_statePairs 13 = .ok (.ireturn, 1) := by decide +kernel
set_option maxRecDepth 20000 in
theorem ggX2_stopsOf_X2_all : GoodIn wsX2_stopsOf wsX2_all := goodIn_r _ [6, 7, 8, 9, 10, 11, 12] (by decide +kernel) (by decide +kernel)
set_option maxRecDepth 20000 in
theorem gX2_stopsOf_X2_all : GoodIn wsX2_stopsOf (wsV RX2 66 RX2 yX2_all wsX2_all) := goodIn_app (goodIn_of _ (by decide +kernel)) ggX2_stopsOf_X2_all
theorem dX2_stopsOf_0 : decode cX2_stopsOf 0 = .ok (.aload_n 0, 1) := by decide +kernel
theorem dX2_stopsOf_1 : decode cX2_stopsOf 1 = .ok (.getfield 20, 3) := by decide +kernel
theorem dX2_stopsOf_4 : decode cX2_stopsOf 4 = .ok (.iload_n 1, 1) := by decide +kernel
theorem dX2_stopsOf_5 : decode cX2_stopsOf 5 = .ok (.iaload, 1) := by decide +kernel
theorem dX2_stopsOf_6 : decode cX2_stopsOf 6 = .ok (.ifCond .ne 7, 3) := by decide +kernel
theorem dX2_stopsOf_9 : decode cX2_stopsOf 9 = .ok (.iconst 0, 1) := by decide +kernel
theorem dX2_stopsOf_10 : decode cX2_stopsOf 10 = .ok (.goto 16, 3) := by decide +kernel
theorem dX2_stopsOf_13 : decode cX2_stopsOf 13 = .ok (.aload_n 0, 1) := by decide +kernel
theorem dX2_stopsOf_14 : decode cX2_stopsOf 14 = .ok (.invokevirtual 66, 3) := by decide +kernel
theorem dX2_stopsOf_17 : decode cX2_stopsOf 17 = .ok (.aload_n 0, 1) := by decide +kernel
theorem dX2_stopsOf_18 : decode cX2_stopsOf 18 = .ok (.getfield 20, 3) := by decide +kernel
theorem dX2_stopsOf_21 : decode cX2_stopsOf 21 = .ok (.iload_n 1, 1) := by decide +kernel
theorem dX2_stopsOf_22 : decode cX2_stopsOf 22 = .ok (.iaload, 1) := by decide +kernel
theorem dX2_stopsOf_23 : decode cX2_stopsOf 23 = .ok (.iconst (-1), 1) := by decide +kernel
theorem dX2_stopsOf_24 : decode cX2_stopsOf 24 = .ok (.ixor, 1) := by decide +kernel
theorem dX2_stopsOf_25 : decode cX2_stopsOf 25 = .ok (.iand, 1) := by decide +kernel
theorem dX2_stopsOf_26 : decode cX2_stopsOf 26 = .ok (.ireturn, 1) := by decide +kernel
set_option maxRecDepth 20000 in
theorem ggX2_stopPairs_X2_stopsOf : GoodIn wsX2_stopPairs wsX2_stopsOf := goodIn_r _ [5, 6, 7, 8, 9, 4, 10, 11, 19, 20, 21, 22, 23] (by decide +kernel) (by decide +kernel)
set_option maxRecDepth 20000 in
theorem gX2_stopPairs_X2_stopsOf : GoodIn wsX2_stopPairs (wsV RX2 70 RX2 yX2_stopsOf wsX2_stopsOf) := goodIn_app (goodIn_of _ (by decide +kernel)) ggX2_stopPairs_X2_stopsOf
set_option maxRecDepth 20000 in
theorem ggX2_stopPairs_J6_bitCount_0f7a4 : GoodIn wsX2_stopPairs wsJ6_bitCount_0f7a4 := goodIn_r _ [15, 16, 17, 18] (by decide +kernel) (by decide +kernel)
set_option maxRecDepth 20000 in
theorem gX2_stopPairs_J6_bitCount_0f7a4 : GoodIn wsX2_stopPairs (va_wsS RX2 73 yJ6_bitCount_0f7a4 wsJ6_bitCount_0f7a4) := goodIn_app (goodIn_of _ (by decide +kernel)) ggX2_stopPairs_J6_bitCount_0f7a4
theorem dX2_stopPairs_0 : decode cX2_stopPairs 0 = .ok (.iconst 0, 1) := by decide +kernel
theorem dX2_stopPairs_1 : decode cX2_stopPairs 1 = .ok (.istore_n 1, 1) := by decide +kernel
theorem dX2_stopPairs_2 : decode cX2_stopPairs 2 = .ok (.iconst 0, 1) := by decide +kernel
theorem dX2_stopPairs_3 : decode cX2_stopPairs 3 = .ok (.istore_n 2, 1) := by decide +kernel
theorem dX2_stopPairs_4 : decode cX2_stopPairs 4 = .ok (.iload_n 2, 1) := by decide +kernel
theorem dX2_stopPairs_5 : decode cX2_stopPairs 5 = .ok (.bipush 6, 2) := by decide +kernel
theorem dX2_stopPairs_7 : decode cX2_stopPairs 7 = .ok (.if_icmp .ge 20, 3) := by decide +kernel
theorem dX2_stopPairs_10 : decode cX2_stopPairs 10 = .ok (.iload_n 1, 1) := by decide +kernel
theorem dX2_stopPairs_11 : decode cX2_stopPairs 11 = .ok (.aload_n 0, 1) := by decide +kernel
theorem dX2_stopPairs_12 : decode cX2_stopPairs 12 = .ok (.iload_n 2, 1) := by decide +kernel
theorem dX2_stopPairs_13 : decode cX2_stopPairs 13 = .ok (.invokevirtual 70, 3) := by decide +kernel
theorem dX2_stopPairs_16 : decode cX2_stopPairs 16 = .ok (.invokestatic 73, 3) := by decide +kernel
theorem dX2_stopPairs_19 : decode cX2_stopPairs 19 = .ok (.iadd, 1) := by decide +kernel
theorem dX2_stopPairs_20 : decode cX2_stopPairs 20 = .ok (.istore_n 1, 1) := by decide +kernel
theorem dX2_stopPairs_21 : decode cX2_stopPairs 21 = .ok (.iinc 2 1, 3) := by decide +kernel
theorem dX2_stopPairs_24 : decode cX2_stopPairs 24 = .ok (.goto (-20), 3) := by decide +kernel
theorem dX2_stopPairs_27 : decode cX2_stopPairs 27 = .ok (.iload_n 1, 1) := by decide +kernel
theorem dX2_stopPairs_28 : decode cX2_stopPairs 28 = .ok (.ireturn, 1) := by decide +kernel
set_option maxRecDepth 20000 in
theorem ggX3_init_X2_init : GoodIn wsX3_init wsX2_init := goodIn_r _ [18, 19, 2, 3, 20, 21, 22, 23, 24, 25, 26, 43, 44, 45, 46, 47] (by decide +kernel) (by decide +kernel)
set_option maxRecDepth 20000 in
theorem gX3_init_X2_init : GoodIn wsX3_init (wsX2_init) := ggX3_init_X2_init
set_option maxRecDepth 20000 in
theorem ggX3_init_X1_init : GoodIn wsX3_init wsX1_init := goodIn_r _ [29, 30, 2, 3, 31, 22, 32, 51, 52, 53, 54] (by decide +kernel) (by decide +kernel)
set_option maxRecDepth 20000 in
theorem gX3_init_X1_init : GoodIn wsX3_init (wsX1_init) := ggX3_init_X1_init
set_option maxRecDepth 20000 in
theorem ggX3_init_X0_init : GoodIn wsX3_init wsX0_init := goodIn_r _ [35, 36, 2, 3, 37, 38, 22, 39, 40, 41, 42, 55, 56, 57, 58, 59, 60, 61, 62, 63, 64, 65] (by decide +kernel) (by decide +kernel)
set_option maxRecDepth 20000 in
theorem gX3_init_X0_init : GoodIn wsX3_init (wsX0_init) := ggX3_init_X0_init
theorem dX3_init_0 : decode cX3_init 0 = .ok (.aload_n 0, 1) := by decide +kernel
theorem dX3_init_1 : decode cX3_init 1 = .ok (.invokespecial 1, 3) := by decide +kernel
theorem dX3_init_4 : decode cX3_init 4 = .ok (.aload_n 0, 1) := by decide +kernel
theorem dX3_init_5 : decode cX3_init 5 = .ok (.new 7, 3) := by decide +kernel
theorem dX3_init_8 : decode cX3_init 8 = .ok (.dup, 1) := by decide +kernel
theorem dX3_init_9 : decode cX3_init 9 = .ok (.invokespecial 9, 3) := by decide +kernel
theorem dX3_init_12 : decode cX3_init 12 = .ok (.putfield 10, 3) := by decide +kernel
theorem dX3_init_15 : decode cX3_init 15 = .ok (.aload_n 0, 1) := by decide +kernel
theorem dX3_init_16 : decode cX3_init 16 = .ok (.new 16, 3) := by decide +kernel
theorem dX3_init_19 : decode cX3_init 19 = .ok (.dup, 1) := by decide +kernel
theorem dX3_init_20 : decode cX3_init 20 = .ok (.aload_n 0, 1) := by decide +kernel
theorem dX3_init_21 : decode cX3_init 21 = .ok (.getfield 10, 3) := by decide +kernel
theorem dX3_init_24 : decode cX3_init 24 = .ok (.invokespecial 18, 3) := by decide +kernel
theorem dX3_init_27 : decode cX3_init 27 = .ok (.putfield 21, 3) := by decide +kernel
theorem dX3_init_30 : decode cX3_init 30 = .ok (.aload_n 0, 1) := by decide +kernel
theorem dX3_init_31 : decode cX3_init 31 = .ok (.new 25, 3) := by decide +kernel
theorem dX3_init_34 : decode cX3_init 34 = .ok (.dup, 1) := by decide +kernel
theorem dX3_init_35 : decode cX3_init 35 = .ok (.aload_n 0, 1) := by decide +kernel
theorem dX3_init_36 : decode cX3_init 36 = .ok (.getfield 10, 3) := by decide +kernel
theorem dX3_init_39 : decode cX3_init 39 = .ok (.aload_n 0, 1) := by decide +kernel
theorem dX3_init_40 : decode cX3_init 40 = .ok (.getfield 21, 3) := by decide +kernel
theorem dX3_init_43 : decode cX3_init 43 = .ok (.invokespecial 27, 3) := by decide +kernel
theorem dX3_init_46 : decode cX3_init 46 = .ok (.putfield 30, 3) := by decide +kernel
theorem dX3_init_49 : decode cX3_init 49 = .ok (.return_, 1) := by decide +kernel
set_option maxRecDepth 20000 in
theorem ggX3_addState_X3_changed : GoodIn wsX3_addState wsX3_changed := goodIn_r _ [8, 9, 10, 11, 12, 13, 19, 20, 21, 22, 23, 24, 25, 26, 27, 28, 29, 30, 31, 32, 33] (by decide +kernel) (by decide +kernel)
set_option maxRecDepth 20000 in
theorem gX3_addState_X3_changed : GoodIn wsX3_addState (wsV RX3 45 RX3 yX3_changed wsX3_changed) := goodIn_app (goodIn_of _ (by decide +kernel)) ggX3_addState_X3_changed
theorem dX3_addState_0 : decode cX3_addState 0 = .ok (.aload_n 0, 1) := by decide +kernel
theorem dX3_addState_1 : decode cX3_addState 1 = .ok (.getfield 10, 3) := by decide +kernel
theorem dX3_addState_4 : decode cX3_addState 4 = .ok (.getfield 34, 3) := by decide +kernel
theorem dX3_addState_7 : decode cX3_addState 7 = .ok (.bipush 12, 2) := by decide +kernel
theorem dX3_addState_9 : decode cX3_addState 9 = .ok (.if_icmp .lt 13, 3) := by decide +kernel
theorem dX3_addState_12 : decode cX3_addState 12 = .ok (.new 38, 3) := by decide +kernel
theorem dX3_addState_15 : decode cX3_addState 15 = .ok (.dup, 1) := by decide +kernel
theorem dX3_addState_16 : decode cX3_addState 16 = .ok (.ldc 40, 2) := by decide +kernel
theorem dX3_addState_18 : decode cX3_addState 18 = .ok (.invokespecial 42, 3) := by decide +kernel
theorem dX3_addState_21 : decode cX3_addState 21 = .ok (.athrow, 1) := by decide +kernel
theorem dX3_addState_22 : decode cX3_addState 22 = .ok (.aload_n 0, 1) := by decide +kernel
theorem dX3_addState_23 : decode cX3_addState 23 = .ok (.getfield 10, 3) := by decide +kernel
theorem dX3_addState_26 : decode cX3_addState 26 = .ok (.getfield 34, 3) := by decide +kernel
theorem dX3_addState_29 : decode cX3_addState 29 = .ok (.istore_n 1, 1) := by decide +kernel
theorem dX3_addState_30 : decode cX3_addState 30 = .ok (.aload_n 0, 1) := by decide +kernel
theorem dX3_addState_31 : decode cX3_addState 31 = .ok (.getfield 10, 3) := by decide +kernel
theorem dX3_addState_34 : decode cX3_addState 34 = .ok (.iload_n 1, 1) := by decide +kernel
theorem dX3_addState_35 : decode cX3_addState 35 = .ok (.iconst 1, 1) := by decide +kernel
theorem dX3_addState_36 : decode cX3_addState 36 = .ok (.iadd, 1) := by decide +kernel
theorem dX3_addState_37 : decode cX3_addState 37 = .ok (.putfield 34, 3) := by decide +kernel
theorem dX3_addState_40 : decode cX3_addState 40 = .ok (.aload_n 0, 1) := by decide +kernel
theorem dX3_addState_41 : decode cX3_addState 41 = .ok (.invokevirtual 45, 3) := by decide +kernel
theorem dX3_addState_44 : decode cX3_addState 44 = .ok (.iload_n 1, 1) := by decide +kernel
theorem dX3_addState_45 : decode cX3_addState 45 = .ok (.ireturn, 1) := by decide +kernel
set_option maxRecDepth 20000 in
theorem ggX3_step_X3_needState : GoodIn wsX3_step wsX3_needState := goodIn_ca (goodIn_r _ [6, 7, 8, 1, 48, 49, 50, 51, 52, 53, 54, 55] (by decide +kernel) (by decide +kernel)) (goodIn_sub (fun _ h => List.mem_cons_of_mem _ (List.mem_append_right _ h)) (by decide +kernel))
set_option maxRecDepth 20000 in
theorem gX3_step_X3_needState : GoodIn wsX3_step (wsV RX3 48 RX3 yX3_needState wsX3_needState) := goodIn_app (goodIn_of _ (by decide +kernel)) ggX3_step_X3_needState
set_option maxRecDepth 20000 in
theorem ggX3_step_X3_needLabel : GoodIn wsX3_step wsX3_needLabel := goodIn_ca (goodIn_r _ [11, 7, 8] (by decide +kernel) (by decide +kernel)) (goodIn_sub (fun _ h => List.mem_cons_of_mem _ (List.mem_append_right _ h)) (by decide +kernel))
set_option maxRecDepth 20000 in
theorem gX3_step_X3_needLabel : GoodIn wsX3_step (va_wsS RX3 52 yX3_needLabel wsX3_needLabel) := goodIn_app (goodIn_of _ (by decide +kernel)) ggX3_step_X3_needLabel
set_option maxRecDepth 20000 in
theorem ggX3_step_X2_end : GoodIn wsX3_step wsX2_end := goodIn_r _ [16, 17, 51, 52, 53, 54, 55] (by decide +kernel) (by decide +kernel)
set_option maxRecDepth 20000 in
theorem gX3_step_X2_end : GoodIn wsX3_step (wsV RX3 55 RX2 yX2_end wsX2_end) := goodIn_app (goodIn_of _ (by decide +kernel)) ggX3_step_X2_end
set_option maxRecDepth 20000 in
theorem ggX3_step_X2_put : GoodIn wsX3_step wsX2_put := goodIn_r _ [21, 22, 23, 24, 15, 25, 17, 26, 27, 28, 29, 30, 31, 32, 33, 34, 35, 36, 37, 38, 39, 40, 41, 51, 52, 53, 54, 55] (by decide +kernel) (by decide +kernel)
set_option maxRecDepth 20000 in
theorem gX3_step_X2_put : GoodIn wsX3_step (wsV RX3 59 RX2 yX2_put wsX2_put) := goodIn_app (goodIn_of _ (by decide +kernel)) ggX3_step_X2_put
set_option maxRecDepth 20000 in
theorem ggX3_step_X3_changed : GoodIn wsX3_step wsX3_changed := goodIn_r _ [45, 46, 47, 48, 49, 50, 56, 57, 58, 59, 60, 61, 62, 63, 64, 65, 66, 67, 68, 69, 70] (by decide +kernel) (by decide +kernel)
set_option maxRecDepth 20000 in
theorem gX3_step_X3_changed : GoodIn wsX3_step (wsV RX3 45 RX3 yX3_changed wsX3_changed) := goodIn_app (goodIn_of _ (by decide +kernel)) ggX3_step_X3_changed
theorem dX3_step_0 : decode cX3_step 0 = .ok (.aload_n 0, 1) := by decide +kernel
theorem dX3_step_1 : decode cX3_step 1 = .ok (.iload_n 1, 1) := by decide +kernel
theorem dX3_step_2 : decode cX3_step 2 = .ok (.invokevirtual 48, 3) := by decide +kernel
theorem dX3_step_5 : decode cX3_step 5 = .ok (.iload_n 2, 1) := by decide +kernel
theorem dX3_step_6 : decode cX3_step 6 = .ok (.invokestatic 52, 3) := by decide +kernel
theorem dX3_step_9 : decode cX3_step 9 = .ok (.aload_n 0, 1) := by decide +kernel
theorem dX3_step_10 : decode cX3_step 10 = .ok (.iload_n 3, 1) := by decide +kernel
theorem dX3_step_11 : decode cX3_step 11 = .ok (.invokevirtual 48, 3) := by decide +kernel
theorem dX3_step_14 : decode cX3_step 14 = .ok (.aload_n 0, 1) := by decide +kernel
theorem dX3_step_15 : decode cX3_step 15 = .ok (.getfield 10, 3) := by decide +kernel
theorem dX3_step_18 : decode cX3_step 18 = .ok (.iload_n 1, 1) := by decide +kernel
theorem dX3_step_19 : decode cX3_step 19 = .ok (.iload_n 2, 1) := by decide +kernel
theorem dX3_step_20 : decode cX3_step 20 = .ok (.invokevirtual 55, 3) := by decide +kernel
theorem dX3_step_23 : decode cX3_step 23 = .ok (.istore 4, 2) := by decide +kernel
theorem dX3_step_25 : decode cX3_step 25 = .ok (.aload_n 0, 1) := by decide +kernel
theorem dX3_step_26 : decode cX3_step 26 = .ok (.getfield 10, 3) := by decide +kernel
theorem dX3_step_29 : decode cX3_step 29 = .ok (.iload_n 1, 1) := by decide +kernel
theorem dX3_step_30 : decode cX3_step 30 = .ok (.iload_n 2, 1) := by decide +kernel
theorem dX3_step_31 : decode cX3_step 31 = .ok (.iload_n 3, 1) := by decide +kernel
theorem dX3_step_32 : decode cX3_step 32 = .ok (.invokevirtual 59, 3) := by decide +kernel
theorem dX3_step_35 : decode cX3_step 35 = .ok (.aload_n 0, 1) := by decide +kernel
theorem dX3_step_36 : decode cX3_step 36 = .ok (.invokevirtual 45, 3) := by decide +kernel
theorem dX3_step_39 : decode cX3_step 39 = .ok (.iload 4, 2) := by decide +kernel
theorem dX3_step_41 : decode cX3_step 41 = .ok (.ireturn, 1) := by decide +kernel
theorem dX3_stateCount_0 : decode cX3_stateCount 0 = .ok (.aload_n 0, 1) := by decide +kernel
theorem dX3_stateCount_1 : decode cX3_stateCount 1 = .ok (.getfield 10, 3) := by decide +kernel
theorem dX3_stateCount_4 : decode cX3_stateCount 4 = .ok (.getfield 34, 3) := by decide +kernel
theorem dX3_stateCount_7 : decode cX3_stateCount 7 = .ok (.ireturn, 1) := by decide +kernel
set_option maxRecDepth 20000 in
theorem ggX3_target_X3_needState : GoodIn wsX3_target wsX3_needState := goodIn_ca (goodIn_r _ [6, 7, 8, 1, 18, 19, 20, 21, 22, 23, 24, 25] (by decide +kernel) (by decide +kernel)) (goodIn_sub (fun _ h => List.mem_cons_of_mem _ (List.mem_append_right _ h)) (by decide +kernel))
set_option maxRecDepth 20000 in
theorem gX3_target_X3_needState : GoodIn wsX3_target (wsV RX3 48 RX3 yX3_needState wsX3_needState) := goodIn_app (goodIn_of _ (by decide +kernel)) ggX3_target_X3_needState
set_option maxRecDepth 20000 in
theorem ggX3_target_X3_needLabel : GoodIn wsX3_target wsX3_needLabel := goodIn_ca (goodIn_r _ [11, 7, 8] (by decide +kernel) (by decide +kernel)) (goodIn_sub (fun _ h => List.mem_cons_of_mem _ (List.mem_append_right _ h)) (by decide +kernel))
set_option maxRecDepth 20000 in
theorem gX3_target_X3_needLabel : GoodIn wsX3_target (va_wsS RX3 52 yX3_needLabel wsX3_needLabel) := goodIn_app (goodIn_of _ (by decide +kernel)) ggX3_target_X3_needLabel
set_option maxRecDepth 20000 in
theorem ggX3_target_X2_end : GoodIn wsX3_target wsX2_end := goodIn_r _ [16, 17, 21, 22, 23, 24, 25] (by decide +kernel) (by decide +kernel)
set_option maxRecDepth 20000 in
theorem gX3_target_X2_end : GoodIn wsX3_target (wsV RX3 55 RX2 yX2_end wsX2_end) := goodIn_app (goodIn_of _ (by decide +kernel)) ggX3_target_X2_end
theorem dX3_target_0 : decode cX3_target 0 = .ok (.aload_n 0, 1) := by decide +kernel
theorem dX3_target_1 : decode cX3_target 1 = .ok (.iload_n 1, 1) := by decide +kernel
theorem dX3_target_2 : decode cX3_target 2 = .ok (.invokevirtual 48, 3) := by decide +kernel
theorem dX3_target_5 : decode cX3_target 5 = .ok (.iload_n 2, 1) := by decide +kernel
theorem dX3_target_6 : decode cX3_target 6 = .ok (.invokestatic 52, 3) := by decide +kernel
theorem dX3_target_9 : decode cX3_target 9 = .ok (.aload_n 0, 1) := by decide +kernel
theorem dX3_target_10 : decode cX3_target 10 = .ok (.getfield 10, 3) := by decide +kernel
theorem dX3_target_13 : decode cX3_target 13 = .ok (.iload_n 1, 1) := by decide +kernel
theorem dX3_target_14 : decode cX3_target 14 = .ok (.iload_n 2, 1) := by decide +kernel
theorem dX3_target_15 : decode cX3_target 15 = .ok (.invokevirtual 55, 3) := by decide +kernel
theorem dX3_target_18 : decode cX3_target 18 = .ok (.ireturn, 1) := by decide +kernel
set_option maxRecDepth 20000 in
theorem ggX3_reached_X2_reachedStates : GoodIn wsX3_reached wsX2_reachedStates := goodIn_r _ [6, 7, 8, 9, 10, 5, 11, 12, 13, 14, 15, 19, 20, 21, 22, 23] (by decide +kernel) (by decide +kernel)
set_option maxRecDepth 20000 in
theorem gX3_reached_X2_reachedStates : GoodIn wsX3_reached (wsV RX3 78 RX2 yX2_reachedStates wsX2_reachedStates) := goodIn_app (goodIn_of _ (by decide +kernel)) ggX3_reached_X2_reachedStates
theorem dX3_reached_0 : decode cX3_reached 0 = .ok (.aload_n 0, 1) := by decide +kernel
theorem dX3_reached_1 : decode cX3_reached 1 = .ok (.getfield 10, 3) := by decide +kernel
theorem dX3_reached_4 : decode cX3_reached 4 = .ok (.invokevirtual 78, 3) := by decide +kernel
theorem dX3_reached_7 : decode cX3_reached 7 = .ok (.ireturn, 1) := by decide +kernel
set_option maxRecDepth 20000 in
theorem ggX3_crossing_X3_needSet : GoodIn wsX3_crossing wsX3_needSet := goodIn_ca (goodIn_r _ [6, 7, 8, 1, 9, 10, 11, 12, 13, 14, 27, 28, 29, 30, 31, 32, 33, 34] (by decide +kernel) (by decide +kernel)) (goodIn_sub (fun _ h => List.mem_cons_of_mem _ (List.mem_append_left _ (List.mem_append_right _ h))) (by decide +kernel))
set_option maxRecDepth 20000 in
theorem gX3_crossing_X3_needSet : GoodIn wsX3_crossing (wsV RX3 85 RX3 yX3_needSet wsX3_needSet) := goodIn_app (goodIn_of _ (by decide +kernel)) ggX3_crossing_X3_needSet
set_option maxRecDepth 20000 in
theorem ggX3_crossing_X3_needLabel : GoodIn wsX3_crossing wsX3_needLabel := goodIn_ca (goodIn_r _ [17, 18, 19] (by decide +kernel) (by decide +kernel)) (goodIn_sub (fun _ h => List.mem_cons_of_mem _ (List.mem_append_right _ h)) (by decide +kernel))
set_option maxRecDepth 20000 in
theorem gX3_crossing_X3_needLabel : GoodIn wsX3_crossing (va_wsS RX3 52 yX3_needLabel wsX3_needLabel) := goodIn_app (goodIn_of _ (by decide +kernel)) ggX3_crossing_X3_needLabel
set_option maxRecDepth 20000 in
theorem ggX3_crossing_X2_way : GoodIn wsX3_crossing wsX2_way := goodIn_r _ [23, 24, 25, 26, 30, 31, 32, 33, 34] (by decide +kernel) (by decide +kernel)
set_option maxRecDepth 20000 in
theorem gX3_crossing_X2_way : GoodIn wsX3_crossing (wsV RX3 88 RX2 yX2_way wsX2_way) := goodIn_app (goodIn_of _ (by decide +kernel)) ggX3_crossing_X2_way
theorem dX3_crossing_0 : decode cX3_crossing 0 = .ok (.aload_n 0, 1) := by decide +kernel
theorem dX3_crossing_1 : decode cX3_crossing 1 = .ok (.iload_n 1, 1) := by decide +kernel
theorem dX3_crossing_2 : decode cX3_crossing 2 = .ok (.invokevirtual 85, 3) := by decide +kernel
theorem dX3_crossing_5 : decode cX3_crossing 5 = .ok (.iload_n 2, 1) := by decide +kernel
theorem dX3_crossing_6 : decode cX3_crossing 6 = .ok (.invokestatic 52, 3) := by decide +kernel
theorem dX3_crossing_9 : decode cX3_crossing 9 = .ok (.aload_n 0, 1) := by decide +kernel
theorem dX3_crossing_10 : decode cX3_crossing 10 = .ok (.getfield 10, 3) := by decide +kernel
theorem dX3_crossing_13 : decode cX3_crossing 13 = .ok (.iload_n 1, 1) := by decide +kernel
theorem dX3_crossing_14 : decode cX3_crossing 14 = .ok (.iload_n 2, 1) := by decide +kernel
theorem dX3_crossing_15 : decode cX3_crossing 15 = .ok (.invokevirtual 88, 3) := by decide +kernel
theorem dX3_crossing_18 : decode cX3_crossing 18 = .ok (.ireturn, 1) := by decide +kernel
set_option maxRecDepth 20000 in
theorem ggX3_isRegion_X3_needSet : GoodIn wsX3_isRegion wsX3_needSet := goodIn_ca (goodIn_r _ [6, 7, 8, 9, 10, 11, 12, 13, 14, 15, 34, 35, 36, 37, 38, 39, 40, 41] (by decide +kernel) (by decide +kernel)) (goodIn_sub (fun _ h => List.mem_cons_of_mem _ (List.mem_append_right _ h)) (by decide +kernel))
set_option maxRecDepth 20000 in
theorem gX3_isRegion_X3_needSet : GoodIn wsX3_isRegion (wsV RX3 85 RX3 yX3_needSet wsX3_needSet) := goodIn_app (goodIn_of _ (by decide +kernel)) ggX3_isRegion_X3_needSet
set_option maxRecDepth 20000 in
theorem ggX3_isRegion_X1_isOne : GoodIn wsX3_isRegion wsX1_isOne := goodIn_r _ [20, 21, 22, 11, 12, 13, 14, 15, 23, 24, 25, 26, 27, 28, 29, 30, 31, 32, 33, 42, 43, 44, 45, 37, 38, 39, 40, 41] (by decide +kernel) (by decide +kernel)
set_option maxRecDepth 20000 in
theorem gX3_isRegion_X1_isOne : GoodIn wsX3_isRegion (wsV RX3 91 RX1 yX1_isOne wsX1_isOne) := goodIn_app (goodIn_of _ (by decide +kernel)) ggX3_isRegion_X1_isOne
theorem dX3_isRegion_0 : decode cX3_isRegion 0 = .ok (.aload_n 0, 1) := by decide +kernel
theorem dX3_isRegion_1 : decode cX3_isRegion 1 = .ok (.iload_n 1, 1) := by decide +kernel
theorem dX3_isRegion_2 : decode cX3_isRegion 2 = .ok (.invokevirtual 85, 3) := by decide +kernel
theorem dX3_isRegion_5 : decode cX3_isRegion 5 = .ok (.aload_n 0, 1) := by decide +kernel
theorem dX3_isRegion_6 : decode cX3_isRegion 6 = .ok (.getfield 21, 3) := by decide +kernel
theorem dX3_isRegion_9 : decode cX3_isRegion 9 = .ok (.iload_n 1, 1) := by decide +kernel
theorem dX3_isRegion_10 : decode cX3_isRegion 10 = .ok (.invokevirtual 91, 3) := by decide +kernel
theorem dX3_isRegion_13 : decode cX3_isRegion 13 = .ok (.ireturn, 1) := by decide +kernel
set_option maxRecDepth 20000 in
theorem ggX3_regionCount_X1_count : GoodIn wsX3_regionCount wsX1_count := goodIn_r _ [6, 7, 8, 9, 10, 11, 5, 12, 13, 14, 15, 16, 17, 18, 19, 20, 21, 22, 23, 24, 25, 26, 27, 28, 29, 30, 31, 35, 36, 37, 38, 39, 40, 41, 42, 43] (by decide +kernel) (by decide +kernel)
set_option maxRecDepth 20000 in
theorem gX3_regionCount_X1_count : GoodIn wsX3_regionCount (wsV RX3 95 RX1 yX1_count wsX1_count) := goodIn_app (goodIn_of _ (by decide +kernel)) ggX3_regionCount_X1_count
theorem dX3_regionCount_0 : decode cX3_regionCount 0 = .ok (.aload_n 0, 1) := by decide +kernel
theorem dX3_regionCount_1 : decode cX3_regionCount 1 = .ok (.getfield 21, 3) := by decide +kernel
theorem dX3_regionCount_4 : decode cX3_regionCount 4 = .ok (.invokevirtual 95, 3) := by decide +kernel
theorem dX3_regionCount_7 : decode cX3_regionCount 7 = .ok (.ireturn, 1) := by decide +kernel
set_option maxRecDepth 20000 in
theorem ggX3_region_X3_needRegion : GoodIn wsX3_region wsX3_needRegion := goodIn_ca (goodIn_r _ [6, 7, 8, 1, 9, 10, 11, 12, 13, 14, 15, 16, 17, 18, 19, 20, 21, 22, 23, 24, 25, 26, 27, 28, 29, 30, 31, 32, 33, 34, 35, 36, 37, 38, 43, 44, 45, 46, 47, 48, 49, 50, 51, 52, 53, 54] (by decide +kernel) (by decide +kernel)) (goodIn_sub (fun _ h => List.mem_cons_of_mem _ (List.mem_append_right _ h)) (by decide +kernel))
set_option maxRecDepth 20000 in
theorem gX3_region_X3_needRegion : GoodIn wsX3_region (wsV RX3 98 RX3 yX3_needRegion wsX3_needRegion) := goodIn_app (goodIn_of _ (by decide +kernel)) ggX3_region_X3_needRegion
set_option maxRecDepth 20000 in
theorem ggX3_region_X1_at : GoodIn wsX3_region wsX1_at := goodIn_r _ [42, 21, 46, 47, 48, 49] (by decide +kernel) (by decide +kernel)
set_option maxRecDepth 20000 in
theorem gX3_region_X1_at : GoodIn wsX3_region (wsV RX3 101 RX1 yX1_at wsX1_at) := goodIn_app (goodIn_of _ (by decide +kernel)) ggX3_region_X1_at
theorem dX3_region_0 : decode cX3_region 0 = .ok (.aload_n 0, 1) := by decide +kernel
theorem dX3_region_1 : decode cX3_region 1 = .ok (.iload_n 1, 1) := by decide +kernel
theorem dX3_region_2 : decode cX3_region 2 = .ok (.invokevirtual 98, 3) := by decide +kernel
theorem dX3_region_5 : decode cX3_region 5 = .ok (.aload_n 0, 1) := by decide +kernel
theorem dX3_region_6 : decode cX3_region 6 = .ok (.getfield 21, 3) := by decide +kernel
theorem dX3_region_9 : decode cX3_region 9 = .ok (.iload_n 1, 1) := by decide +kernel
theorem dX3_region_10 : decode cX3_region 10 = .ok (.invokevirtual 101, 3) := by decide +kernel
theorem dX3_region_13 : decode cX3_region 13 = .ok (.ireturn, 1) := by decide +kernel
set_option maxRecDepth 20000 in
theorem ggX3_isLeast_X3_needRegion : GoodIn wsX3_isLeast wsX3_needRegion := goodIn_ca (goodIn_r _ [6, 7, 8, 1, 9, 10, 11, 12, 13, 14, 15, 16, 17, 18, 19, 20, 21, 22, 23, 24, 25, 26, 27, 28, 29, 30, 31, 32, 33, 34, 35, 36, 37, 38, 43, 44, 45, 46, 47, 48, 49, 50, 51, 52, 53, 54] (by decide +kernel) (by decide +kernel)) (goodIn_sub (fun _ h => List.mem_cons_of_mem _ (List.mem_append_right _ h)) (by decide +kernel))
set_option maxRecDepth 20000 in
theorem gX3_isLeast_X3_needRegion : GoodIn wsX3_isLeast (wsV RX3 98 RX3 yX3_needRegion wsX3_needRegion) := goodIn_app (goodIn_of _ (by decide +kernel)) ggX3_isLeast_X3_needRegion
set_option maxRecDepth 20000 in
theorem ggX3_isLeast_X1_hasNoPart : GoodIn wsX3_isLeast wsX1_hasNoPart := goodIn_r _ [42, 21, 46, 47, 48, 49] (by decide +kernel) (by decide +kernel)
set_option maxRecDepth 20000 in
theorem gX3_isLeast_X1_hasNoPart : GoodIn wsX3_isLeast (wsV RX3 104 RX1 yX1_hasNoPart wsX1_hasNoPart) := goodIn_app (goodIn_of _ (by decide +kernel)) ggX3_isLeast_X1_hasNoPart
theorem dX3_isLeast_0 : decode cX3_isLeast 0 = .ok (.aload_n 0, 1) := by decide +kernel
theorem dX3_isLeast_1 : decode cX3_isLeast 1 = .ok (.iload_n 1, 1) := by decide +kernel
theorem dX3_isLeast_2 : decode cX3_isLeast 2 = .ok (.invokevirtual 98, 3) := by decide +kernel
theorem dX3_isLeast_5 : decode cX3_isLeast 5 = .ok (.aload_n 0, 1) := by decide +kernel
theorem dX3_isLeast_6 : decode cX3_isLeast 6 = .ok (.getfield 21, 3) := by decide +kernel
theorem dX3_isLeast_9 : decode cX3_isLeast 9 = .ok (.iload_n 1, 1) := by decide +kernel
theorem dX3_isLeast_10 : decode cX3_isLeast 10 = .ok (.invokevirtual 104, 3) := by decide +kernel
theorem dX3_isLeast_13 : decode cX3_isLeast 13 = .ok (.ireturn, 1) := by decide +kernel
set_option maxRecDepth 20000 in
theorem ggX3_grow_X3_needSet : GoodIn wsX3_grow wsX3_needSet := goodIn_ca (goodIn_r _ [6, 7, 8, 1, 9, 10, 11, 12, 13, 14, 39, 40, 41, 42, 43, 44, 45, 46] (by decide +kernel) (by decide +kernel)) (goodIn_sub (fun _ h => List.mem_cons_of_mem _ (List.mem_append_right _ h)) (by decide +kernel))
set_option maxRecDepth 20000 in
theorem gX3_grow_X3_needSet : GoodIn wsX3_grow (wsV RX3 85 RX3 yX3_needSet wsX3_needSet) := goodIn_app (goodIn_of _ (by decide +kernel)) ggX3_grow_X3_needSet
set_option maxRecDepth 20000 in
theorem ggX3_grow_X2_grown : GoodIn wsX3_grow wsX2_grown := goodIn_r _ [18, 19, 20, 21, 12, 22, 23, 24, 25, 26, 27, 28, 29, 30, 31, 32, 33, 34, 35, 36, 37, 14, 38, 42, 43, 44, 45, 46] (by decide +kernel) (by decide +kernel)
set_option maxRecDepth 20000 in
theorem gX3_grow_X2_grown : GoodIn wsX3_grow (wsV RX3 107 RX2 yX2_grown wsX2_grown) := goodIn_app (goodIn_of _ (by decide +kernel)) ggX3_grow_X2_grown
theorem dX3_grow_0 : decode cX3_grow 0 = .ok (.aload_n 0, 1) := by decide +kernel
theorem dX3_grow_1 : decode cX3_grow 1 = .ok (.iload_n 1, 1) := by decide +kernel
theorem dX3_grow_2 : decode cX3_grow 2 = .ok (.invokevirtual 85, 3) := by decide +kernel
theorem dX3_grow_5 : decode cX3_grow 5 = .ok (.aload_n 0, 1) := by decide +kernel
theorem dX3_grow_6 : decode cX3_grow 6 = .ok (.getfield 10, 3) := by decide +kernel
theorem dX3_grow_9 : decode cX3_grow 9 = .ok (.iload_n 1, 1) := by decide +kernel
theorem dX3_grow_10 : decode cX3_grow 10 = .ok (.invokevirtual 107, 3) := by decide +kernel
theorem dX3_grow_13 : decode cX3_grow 13 = .ok (.ireturn, 1) := by decide +kernel
set_option maxRecDepth 20000 in
theorem ggX3_lumps_X1_pairsNotApart : GoodIn wsX3_lumps wsX1_pairsNotApart := goodIn_r _ [6, 7, 8, 9, 10, 5, 11, 12, 13, 14, 15, 16, 17, 18, 19, 20, 21, 22, 23, 24, 25, 26, 27, 28, 29, 30, 31, 32, 33, 34, 35, 36, 37, 38, 39, 40, 41, 42, 46, 47, 48, 49, 50, 51, 52, 53, 54] (by decide +kernel) (by decide +kernel)
set_option maxRecDepth 20000 in
theorem gX3_lumps_X1_pairsNotApart : GoodIn wsX3_lumps (wsV RX3 116 RX1 yX1_pairsNotApart wsX1_pairsNotApart) := goodIn_app (goodIn_of _ (by decide +kernel)) ggX3_lumps_X1_pairsNotApart
theorem dX3_lumps_0 : decode cX3_lumps 0 = .ok (.aload_n 0, 1) := by decide +kernel
theorem dX3_lumps_1 : decode cX3_lumps 1 = .ok (.getfield 21, 3) := by decide +kernel
theorem dX3_lumps_4 : decode cX3_lumps 4 = .ok (.invokevirtual 116, 3) := by decide +kernel
theorem dX3_lumps_7 : decode cX3_lumps 7 = .ok (.ireturn, 1) := by decide +kernel
set_option maxRecDepth 20000 in
theorem ggX3_leaks_X1_pairsNotPrevented : GoodIn wsX3_leaks wsX1_pairsNotPrevented := goodIn_r _ [6, 7, 8, 9, 10, 11, 12, 13, 14, 15, 16, 17, 18, 19, 20, 21, 5, 22, 23, 24, 25, 26, 27, 28, 29, 30, 31, 32, 33, 34, 35, 36, 37, 38, 39, 40, 41, 42, 43, 44, 45, 46, 47, 48, 49, 50, 51, 52, 56, 57, 58, 59, 60, 61, 62, 63, 64] (by decide +kernel) (by decide +kernel)
set_option maxRecDepth 20000 in
theorem gX3_leaks_X1_pairsNotPrevented : GoodIn wsX3_leaks (wsV RX3 119 RX1 yX1_pairsNotPrevented wsX1_pairsNotPrevented) := goodIn_app (goodIn_of _ (by decide +kernel)) ggX3_leaks_X1_pairsNotPrevented
theorem dX3_leaks_0 : decode cX3_leaks 0 = .ok (.aload_n 0, 1) := by decide +kernel
theorem dX3_leaks_1 : decode cX3_leaks 1 = .ok (.getfield 21, 3) := by decide +kernel
theorem dX3_leaks_4 : decode cX3_leaks 4 = .ok (.invokevirtual 119, 3) := by decide +kernel
theorem dX3_leaks_7 : decode cX3_leaks 7 = .ok (.ireturn, 1) := by decide +kernel
set_option maxRecDepth 20000 in
theorem ggX3_fidelity_X2_statePairs : GoodIn wsX3_fidelity wsX2_statePairs := goodIn_r _ [7, 8, 78, 79, 80, 81, 82] (by decide +kernel) (by decide +kernel)
set_option maxRecDepth 20000 in
theorem gX3_fidelity_X2_statePairs : GoodIn wsX3_fidelity (wsV RX3 122 RX2 yX2_statePairs wsX2_statePairs) := goodIn_app (goodIn_of _ (by decide +kernel)) ggX3_fidelity_X2_statePairs
set_option maxRecDepth 20000 in
theorem ggX3_fidelity_X2_stopPairs : GoodIn wsX3_fidelity wsX2_stopPairs := goodIn_r _ [12, 13, 14, 15, 6, 16, 17, 18, 19, 20, 21, 8, 22, 23, 24, 25, 26, 27, 28, 78, 79, 80, 81, 82] (by decide +kernel) (by decide +kernel)
set_option maxRecDepth 20000 in
theorem gX3_fidelity_X2_stopPairs : GoodIn wsX3_fidelity (wsV RX3 125 RX2 yX2_stopPairs wsX2_stopPairs) := goodIn_app (goodIn_of _ (by decide +kernel)) ggX3_fidelity_X2_stopPairs
set_option maxRecDepth 20000 in
theorem ggX3_fidelity_X1_pairsNotApart : GoodIn wsX3_fidelity wsX1_pairsNotApart := goodIn_r _ [33, 34, 35, 36, 37, 32, 38, 39, 40, 41, 42, 43, 44, 45, 46, 47, 48, 49, 50, 19, 20, 6, 21, 8, 51, 52, 53, 54, 55, 56, 57, 58, 17, 59, 60, 61, 62, 63, 83, 84, 85, 86, 78, 79, 80, 81, 82] (by decide +kernel) (by decide +kernel)
set_option maxRecDepth 20000 in
theorem gX3_fidelity_X1_pairsNotApart : GoodIn wsX3_fidelity (wsV RX3 116 RX1 yX1_pairsNotApart wsX1_pairsNotApart) := goodIn_app (goodIn_of _ (by decide +kernel)) ggX3_fidelity_X1_pairsNotApart
set_option maxRecDepth 20000 in
theorem ggX3_fidelity_X1_pairsNotPrevented : GoodIn wsX3_fidelity wsX1_pairsNotPrevented := goodIn_r _ [67, 34, 68, 14, 15, 6, 16, 17, 18, 19, 20, 21, 8, 69, 70, 71, 32, 72, 39, 40, 41, 42, 43, 44, 45, 46, 47, 48, 49, 50, 51, 52, 53, 54, 55, 56, 57, 58, 59, 60, 73, 74, 23, 24, 25, 26, 27, 28, 83, 84, 85, 86, 78, 79, 80, 81, 82] (by decide +kernel) (by decide +kernel)
set_option maxRecDepth 20000 in
theorem gX3_fidelity_X1_pairsNotPrevented : GoodIn wsX3_fidelity (wsV RX3 119 RX1 yX1_pairsNotPrevented wsX1_pairsNotPrevented) := goodIn_app (goodIn_of _ (by decide +kernel)) ggX3_fidelity_X1_pairsNotPrevented
theorem dX3_fidelity_0 : decode cX3_fidelity 0 = .ok (.aload_n 0, 1) := by decide +kernel
theorem dX3_fidelity_1 : decode cX3_fidelity 1 = .ok (.getfield 10, 3) := by decide +kernel
theorem dX3_fidelity_4 : decode cX3_fidelity 4 = .ok (.invokevirtual 122, 3) := by decide +kernel
theorem dX3_fidelity_7 : decode cX3_fidelity 7 = .ok (.aload_n 0, 1) := by decide +kernel
theorem dX3_fidelity_8 : decode cX3_fidelity 8 = .ok (.getfield 10, 3) := by decide +kernel
theorem dX3_fidelity_11 : decode cX3_fidelity 11 = .ok (.invokevirtual 125, 3) := by decide +kernel
theorem dX3_fidelity_14 : decode cX3_fidelity 14 = .ok (.iadd, 1) := by decide +kernel
theorem dX3_fidelity_15 : decode cX3_fidelity 15 = .ok (.istore_n 1, 1) := by decide +kernel
theorem dX3_fidelity_16 : decode cX3_fidelity 16 = .ok (.iload_n 1, 1) := by decide +kernel
theorem dX3_fidelity_17 : decode cX3_fidelity 17 = .ok (.ifCond .ne 5, 3) := by decide +kernel
theorem dX3_fidelity_20 : decode cX3_fidelity 20 = .ok (.dconst 1, 1) := by decide +kernel
theorem dX3_fidelity_21 : decode cX3_fidelity 21 = .ok (.dreturn, 1) := by decide +kernel
theorem dX3_fidelity_22 : decode cX3_fidelity 22 = .ok (.aload_n 0, 1) := by decide +kernel
theorem dX3_fidelity_23 : decode cX3_fidelity 23 = .ok (.getfield 21, 3) := by decide +kernel
theorem dX3_fidelity_26 : decode cX3_fidelity 26 = .ok (.invokevirtual 116, 3) := by decide +kernel
theorem dX3_fidelity_29 : decode cX3_fidelity 29 = .ok (.aload_n 0, 1) := by decide +kernel
theorem dX3_fidelity_30 : decode cX3_fidelity 30 = .ok (.getfield 21, 3) := by decide +kernel
theorem dX3_fidelity_33 : decode cX3_fidelity 33 = .ok (.invokevirtual 119, 3) := by decide +kernel
theorem dX3_fidelity_36 : decode cX3_fidelity 36 = .ok (.iadd, 1) := by decide +kernel
theorem dX3_fidelity_37 : decode cX3_fidelity 37 = .ok (.istore_n 2, 1) := by decide +kernel
theorem dX3_fidelity_38 : decode cX3_fidelity 38 = .ok (.dconst 1, 1) := by decide +kernel
theorem dX3_fidelity_39 : decode cX3_fidelity 39 = .ok (.iload_n 2, 1) := by decide +kernel
theorem dX3_fidelity_40 : decode cX3_fidelity 40 = .ok (.i2d, 1) := by decide +kernel
theorem dX3_fidelity_41 : decode cX3_fidelity 41 = .ok (.iload_n 1, 1) := by decide +kernel
theorem dX3_fidelity_42 : decode cX3_fidelity 42 = .ok (.i2d, 1) := by decide +kernel
theorem dX3_fidelity_43 : decode cX3_fidelity 43 = .ok (.ddiv, 1) := by decide +kernel
theorem dX3_fidelity_44 : decode cX3_fidelity 44 = .ok (.dsub, 1) := by decide +kernel
theorem dX3_fidelity_45 : decode cX3_fidelity 45 = .ok (.dreturn, 1) := by decide +kernel
set_option maxRecDepth 20000 in
theorem ggX3_makeNet_X0_make : GoodIn wsX3_makeNet wsX0_make := goodIn_r _ [6, 7, 8, 9, 10, 11, 12, 13, 14, 5, 15, 16, 17, 18, 19, 20, 21, 22, 23, 24, 25, 26, 27, 28, 29, 30, 31, 32, 33, 34, 35, 36, 37, 38, 39, 40, 41, 42, 43, 44, 45, 46, 47, 48, 49, 50, 51, 52, 53, 54, 55, 56, 57, 58, 59, 60, 61, 62, 63, 64, 65, 66, 67, 68, 69, 73, 74, 75, 76, 77, 78, 79, 80, 81, 82, 83, 84, 85, 86, 87, 88, 89, 90, 91, 92] (by decide +kernel) (by decide +kernel)
set_option maxRecDepth 20000 in
theorem gX3_makeNet_X0_make : GoodIn wsX3_makeNet (wsV RX3 132 RX0 yX0_make wsX0_make) := goodIn_app (goodIn_of _ (by decide +kernel)) ggX3_makeNet_X0_make
theorem dX3_makeNet_0 : decode cX3_makeNet 0 = .ok (.aload_n 0, 1) := by decide +kernel
theorem dX3_makeNet_1 : decode cX3_makeNet 1 = .ok (.getfield 30, 3) := by decide +kernel
theorem dX3_makeNet_4 : decode cX3_makeNet 4 = .ok (.getfield 128, 3) := by decide +kernel
theorem dX3_makeNet_7 : decode cX3_makeNet 7 = .ok (.ifCond .ne 10, 3) := by decide +kernel
theorem dX3_makeNet_10 : decode cX3_makeNet 10 = .ok (.aload_n 0, 1) := by decide +kernel
theorem dX3_makeNet_11 : decode cX3_makeNet 11 = .ok (.getfield 30, 3) := by decide +kernel
theorem dX3_makeNet_14 : decode cX3_makeNet 14 = .ok (.invokevirtual 132, 3) := by decide +kernel
theorem dX3_makeNet_17 : decode cX3_makeNet 17 = .ok (.aload_n 0, 1) := by decide +kernel
theorem dX3_makeNet_18 : decode cX3_makeNet 18 = .ok (.getfield 30, 3) := by decide +kernel
theorem dX3_makeNet_21 : decode cX3_makeNet 21 = .ok (.aload_n 0, 1) := by decide +kernel
theorem dX3_makeNet_22 : decode cX3_makeNet 22 = .ok (.getfield 30, 3) := by decide +kernel
theorem dX3_makeNet_25 : decode cX3_makeNet 25 = .ok (.getfield 135, 3) := by decide +kernel
theorem dX3_makeNet_28 : decode cX3_makeNet 28 = .ok (.putfield 138, 3) := by decide +kernel
theorem dX3_makeNet_31 : decode cX3_makeNet 31 = .ok (.aload_n 0, 1) := by decide +kernel
theorem dX3_makeNet_32 : decode cX3_makeNet 32 = .ok (.getfield 30, 3) := by decide +kernel
theorem dX3_makeNet_35 : decode cX3_makeNet 35 = .ok (.getfield 141, 3) := by decide +kernel
theorem dX3_makeNet_38 : decode cX3_makeNet 38 = .ok (.ireturn, 1) := by decide +kernel
set_option maxRecDepth 20000 in
theorem ggX3_placeRegion_X3_needNet : GoodIn wsX3_placeRegion wsX3_needNet := goodIn_ca (goodIn_r _ [8, 9, 10, 3, 17, 18, 19, 20, 21, 22, 23, 24, 25, 26, 27, 28, 29, 30] (by decide +kernel) (by decide +kernel)) (goodIn_sub (fun _ h => List.mem_cons_of_mem _ (List.mem_append_right _ h)) (by decide +kernel))
set_option maxRecDepth 20000 in
theorem gX3_placeRegion_X3_needNet : GoodIn wsX3_placeRegion (wsV RX3 144 RX3 yX3_needNet wsX3_needNet) := goodIn_app (goodIn_of _ (by decide +kernel)) ggX3_placeRegion_X3_needNet
set_option maxRecDepth 20000 in
theorem ggX3_placeRegion_X0_regionOf : GoodIn wsX3_placeRegion wsX0_regionOf := goodIn_r _ [15, 16, 20, 21, 22, 23, 24, 25, 26, 27, 28, 29, 30] (by decide +kernel) (by decide +kernel)
set_option maxRecDepth 20000 in
theorem gX3_placeRegion_X0_regionOf : GoodIn wsX3_placeRegion (wsV RX3 152 RX0 yX0_regionOf wsX0_regionOf) := goodIn_app (goodIn_of _ (by decide +kernel)) ggX3_placeRegion_X0_regionOf
theorem dX3_placeRegion_0 : decode cX3_placeRegion 0 = .ok (.aload_n 0, 1) := by decide +kernel
theorem dX3_placeRegion_1 : decode cX3_placeRegion 1 = .ok (.invokevirtual 144, 3) := by decide +kernel
theorem dX3_placeRegion_4 : decode cX3_placeRegion 4 = .ok (.iload_n 1, 1) := by decide +kernel
theorem dX3_placeRegion_5 : decode cX3_placeRegion 5 = .ok (.ifCond .lt 14, 3) := by decide +kernel
theorem dX3_placeRegion_8 : decode cX3_placeRegion 8 = .ok (.iload_n 1, 1) := by decide +kernel
theorem dX3_placeRegion_9 : decode cX3_placeRegion 9 = .ok (.aload_n 0, 1) := by decide +kernel
theorem dX3_placeRegion_10 : decode cX3_placeRegion 10 = .ok (.getfield 30, 3) := by decide +kernel
theorem dX3_placeRegion_13 : decode cX3_placeRegion 13 = .ok (.getfield 141, 3) := by decide +kernel
theorem dX3_placeRegion_16 : decode cX3_placeRegion 16 = .ok (.if_icmp .lt 13, 3) := by decide +kernel
theorem dX3_placeRegion_19 : decode cX3_placeRegion 19 = .ok (.new 147, 3) := by decide +kernel
theorem dX3_placeRegion_22 : decode cX3_placeRegion 22 = .ok (.dup, 1) := by decide +kernel
theorem dX3_placeRegion_23 : decode cX3_placeRegion 23 = .ok (.ldc 149, 2) := by decide +kernel
theorem dX3_placeRegion_25 : decode cX3_placeRegion 25 = .ok (.invokespecial 151, 3) := by decide +kernel
theorem dX3_placeRegion_28 : decode cX3_placeRegion 28 = .ok (.athrow, 1) := by decide +kernel
theorem dX3_placeRegion_29 : decode cX3_placeRegion 29 = .ok (.aload_n 0, 1) := by decide +kernel
theorem dX3_placeRegion_30 : decode cX3_placeRegion 30 = .ok (.getfield 30, 3) := by decide +kernel
theorem dX3_placeRegion_33 : decode cX3_placeRegion 33 = .ok (.iload_n 1, 1) := by decide +kernel
theorem dX3_placeRegion_34 : decode cX3_placeRegion 34 = .ok (.invokevirtual 152, 3) := by decide +kernel
theorem dX3_placeRegion_37 : decode cX3_placeRegion 37 = .ok (.ireturn, 1) := by decide +kernel
set_option maxRecDepth 20000 in
theorem ggX3_fire_X3_needNet : GoodIn wsX3_fire wsX3_needNet := goodIn_ca (goodIn_r _ [6, 7, 8, 1, 32, 33, 34, 35, 36, 37, 38, 39, 40, 41, 42, 43, 44, 45] (by decide +kernel) (by decide +kernel)) (goodIn_sub (fun _ h => List.mem_cons_of_mem _ (List.mem_append_left _ (List.mem_append_right _ h))) (by decide +kernel))
set_option maxRecDepth 20000 in
theorem gX3_fire_X3_needNet : GoodIn wsX3_fire (wsV RX3 144 RX3 yX3_needNet wsX3_needNet) := goodIn_app (goodIn_of _ (by decide +kernel)) ggX3_fire_X3_needNet
set_option maxRecDepth 20000 in
theorem ggX3_fire_X3_needLabel : GoodIn wsX3_fire wsX3_needLabel := goodIn_ca (goodIn_r _ [11, 12, 13] (by decide +kernel) (by decide +kernel)) (goodIn_sub (fun _ h => List.mem_cons_of_mem _ (List.mem_append_right _ h)) (by decide +kernel))
set_option maxRecDepth 20000 in
theorem gX3_fire_X3_needLabel : GoodIn wsX3_fire (va_wsS RX3 52 yX3_needLabel wsX3_needLabel) := goodIn_app (goodIn_of _ (by decide +kernel)) ggX3_fire_X3_needLabel
set_option maxRecDepth 20000 in
theorem ggX3_fire_X0_canFire : GoodIn wsX3_fire wsX0_canFire := goodIn_r _ [18, 19, 20, 21, 22, 23, 24, 25, 26, 27, 35, 36, 37, 38, 39, 40, 41, 42, 43, 44, 45, 46, 47, 48, 49, 50] (by decide +kernel) (by decide +kernel)
set_option maxRecDepth 20000 in
theorem gX3_fire_X0_canFire : GoodIn wsX3_fire (wsV RX3 161 RX0 yX0_canFire wsX0_canFire) := goodIn_app (goodIn_of _ (by decide +kernel)) ggX3_fire_X0_canFire
set_option maxRecDepth 20000 in
theorem ggX3_fire_X0_behind : GoodIn wsX3_fire wsX0_behind := goodIn_r _ [31, 20, 21, 35, 36, 37, 38, 39, 40, 41, 42, 43, 44, 45] (by decide +kernel) (by decide +kernel)
set_option maxRecDepth 20000 in
theorem gX3_fire_X0_behind : GoodIn wsX3_fire (wsV RX3 165 RX0 yX0_behind wsX0_behind) := goodIn_app (goodIn_of _ (by decide +kernel)) ggX3_fire_X0_behind
theorem dX3_fire_0 : decode cX3_fire 0 = .ok (.aload_n 0, 1) := by decide +kernel
theorem dX3_fire_1 : decode cX3_fire 1 = .ok (.invokevirtual 144, 3) := by decide +kernel
theorem dX3_fire_4 : decode cX3_fire 4 = .ok (.iload_n 1, 1) := by decide +kernel
theorem dX3_fire_5 : decode cX3_fire 5 = .ok (.invokestatic 52, 3) := by decide +kernel
theorem dX3_fire_8 : decode cX3_fire 8 = .ok (.aload_n 0, 1) := by decide +kernel
theorem dX3_fire_9 : decode cX3_fire 9 = .ok (.getfield 30, 3) := by decide +kernel
theorem dX3_fire_12 : decode cX3_fire 12 = .ok (.iload_n 1, 1) := by decide +kernel
theorem dX3_fire_13 : decode cX3_fire 13 = .ok (.aload_n 0, 1) := by decide +kernel
theorem dX3_fire_14 : decode cX3_fire 14 = .ok (.getfield 30, 3) := by decide +kernel
theorem dX3_fire_17 : decode cX3_fire 17 = .ok (.getfield 138, 3) := by decide +kernel
theorem dX3_fire_20 : decode cX3_fire 20 = .ok (.invokevirtual 161, 3) := by decide +kernel
theorem dX3_fire_23 : decode cX3_fire 23 = .ok (.ifCond .ne 5, 3) := by decide +kernel
theorem dX3_fire_26 : decode cX3_fire 26 = .ok (.iconst (-1), 1) := by decide +kernel
theorem dX3_fire_27 : decode cX3_fire 27 = .ok (.ireturn, 1) := by decide +kernel
theorem dX3_fire_28 : decode cX3_fire 28 = .ok (.aload_n 0, 1) := by decide +kernel
theorem dX3_fire_29 : decode cX3_fire 29 = .ok (.getfield 30, 3) := by decide +kernel
theorem dX3_fire_32 : decode cX3_fire 32 = .ok (.aload_n 0, 1) := by decide +kernel
theorem dX3_fire_33 : decode cX3_fire 33 = .ok (.getfield 30, 3) := by decide +kernel
theorem dX3_fire_36 : decode cX3_fire 36 = .ok (.iload_n 1, 1) := by decide +kernel
theorem dX3_fire_37 : decode cX3_fire 37 = .ok (.aload_n 0, 1) := by decide +kernel
theorem dX3_fire_38 : decode cX3_fire 38 = .ok (.getfield 30, 3) := by decide +kernel
theorem dX3_fire_41 : decode cX3_fire 41 = .ok (.getfield 138, 3) := by decide +kernel
theorem dX3_fire_44 : decode cX3_fire 44 = .ok (.invokevirtual 165, 3) := by decide +kernel
theorem dX3_fire_47 : decode cX3_fire 47 = .ok (.putfield 138, 3) := by decide +kernel
theorem dX3_fire_50 : decode cX3_fire 50 = .ok (.aload_n 0, 1) := by decide +kernel
theorem dX3_fire_51 : decode cX3_fire 51 = .ok (.getfield 30, 3) := by decide +kernel
theorem dX3_fire_54 : decode cX3_fire 54 = .ok (.getfield 138, 3) := by decide +kernel
theorem dX3_fire_57 : decode cX3_fire 57 = .ok (.ireturn, 1) := by decide +kernel
set_option maxRecDepth 20000 in
theorem ggX3_markingCount_X3_needNet : GoodIn wsX3_markingCount wsX3_needNet := goodIn_ca (goodIn_r _ [6, 7, 8, 1, 42, 43, 44, 45, 46, 47, 48, 49, 50, 51, 52, 53, 54, 55] (by decide +kernel) (by decide +kernel)) (goodIn_sub (fun _ h => List.mem_cons_of_mem _ (List.mem_append_right _ h)) (by decide +kernel))
set_option maxRecDepth 20000 in
theorem gX3_markingCount_X3_needNet : GoodIn wsX3_markingCount (wsV RX3 144 RX3 yX3_needNet wsX3_needNet) := goodIn_app (goodIn_of _ (by decide +kernel)) ggX3_markingCount_X3_needNet
set_option maxRecDepth 20000 in
theorem ggX3_markingCount_X0_markingsFound : GoodIn wsX3_markingCount wsX0_markingsFound := goodIn_r _ [13, 14, 15, 16, 17, 12, 18, 19, 20, 21, 22, 23, 24, 25, 26, 27, 28, 29, 30, 31, 32, 33, 34, 35, 36, 37, 38, 39, 40, 41, 45, 46, 47, 48, 49, 50, 51, 52, 53, 54, 55, 56, 57, 58, 59, 60] (by decide +kernel) (by decide +kernel)
set_option maxRecDepth 20000 in
theorem gX3_markingCount_X0_markingsFound : GoodIn wsX3_markingCount (wsV RX3 168 RX0 yX0_markingsFound wsX0_markingsFound) := goodIn_app (goodIn_of _ (by decide +kernel)) ggX3_markingCount_X0_markingsFound
theorem dX3_markingCount_0 : decode cX3_markingCount 0 = .ok (.aload_n 0, 1) := by decide +kernel
theorem dX3_markingCount_1 : decode cX3_markingCount 1 = .ok (.invokevirtual 144, 3) := by decide +kernel
theorem dX3_markingCount_4 : decode cX3_markingCount 4 = .ok (.aload_n 0, 1) := by decide +kernel
theorem dX3_markingCount_5 : decode cX3_markingCount 5 = .ok (.getfield 30, 3) := by decide +kernel
theorem dX3_markingCount_8 : decode cX3_markingCount 8 = .ok (.invokevirtual 168, 3) := by decide +kernel
theorem dX3_markingCount_11 : decode cX3_markingCount 11 = .ok (.ireturn, 1) := by decide +kernel
set_option maxRecDepth 20000 in
theorem ggX3_isFaithful_X3_needNet : GoodIn wsX3_isFaithful wsX3_needNet := goodIn_ca (goodIn_r _ [6, 7, 8, 1, 53, 54, 55, 56, 57, 58, 59, 60, 61, 62, 63, 64, 65, 66] (by decide +kernel) (by decide +kernel)) (goodIn_sub (fun _ h => List.mem_cons_of_mem _ (List.mem_append_right _ h)) (by decide +kernel))
set_option maxRecDepth 20000 in
theorem gX3_isFaithful_X3_needNet : GoodIn wsX3_isFaithful (wsV RX3 144 RX3 yX3_needNet wsX3_needNet) := goodIn_app (goodIn_of _ (by decide +kernel)) ggX3_isFaithful_X3_needNet
set_option maxRecDepth 20000 in
theorem ggX3_isFaithful_X0_behavesLikeSystem : GoodIn wsX3_isFaithful wsX0_behavesLikeSystem := goodIn_r _ [13, 14, 15, 16, 17, 18, 19, 20, 21, 22, 23, 24, 25, 26, 5, 27, 28, 29, 30, 12, 31, 32, 33, 34, 35, 36, 37, 38, 39, 40, 41, 42, 43, 44, 45, 46, 47, 48, 49, 50, 51, 52, 56, 57, 58, 59, 60, 61, 62, 63, 64, 65, 66, 67, 68, 69, 70, 71] (by decide +kernel) (by decide +kernel)
set_option maxRecDepth 20000 in
theorem gX3_isFaithful_X0_behavesLikeSystem : GoodIn wsX3_isFaithful (wsV RX3 176 RX0 yX0_behavesLikeSystem wsX0_behavesLikeSystem) := goodIn_app (goodIn_of _ (by decide +kernel)) ggX3_isFaithful_X0_behavesLikeSystem
theorem dX3_isFaithful_0 : decode cX3_isFaithful 0 = .ok (.aload_n 0, 1) := by decide +kernel
theorem dX3_isFaithful_1 : decode cX3_isFaithful 1 = .ok (.invokevirtual 144, 3) := by decide +kernel
theorem dX3_isFaithful_4 : decode cX3_isFaithful 4 = .ok (.aload_n 0, 1) := by decide +kernel
theorem dX3_isFaithful_5 : decode cX3_isFaithful 5 = .ok (.getfield 30, 3) := by decide +kernel
theorem dX3_isFaithful_8 : decode cX3_isFaithful 8 = .ok (.invokevirtual 176, 3) := by decide +kernel
theorem dX3_isFaithful_11 : decode cX3_isFaithful 11 = .ok (.ireturn, 1) := by decide +kernel
theorem dX3_changed_0 : decode cX3_changed 0 = .ok (.aload_n 0, 1) := by decide +kernel
theorem dX3_changed_1 : decode cX3_changed 1 = .ok (.getfield 21, 3) := by decide +kernel
theorem dX3_changed_4 : decode cX3_changed 4 = .ok (.iconst 0, 1) := by decide +kernel
theorem dX3_changed_5 : decode cX3_changed 5 = .ok (.putfield 188, 3) := by decide +kernel
theorem dX3_changed_8 : decode cX3_changed 8 = .ok (.aload_n 0, 1) := by decide +kernel
theorem dX3_changed_9 : decode cX3_changed 9 = .ok (.getfield 30, 3) := by decide +kernel
theorem dX3_changed_12 : decode cX3_changed 12 = .ok (.iconst 0, 1) := by decide +kernel
theorem dX3_changed_13 : decode cX3_changed 13 = .ok (.putfield 128, 3) := by decide +kernel
theorem dX3_changed_16 : decode cX3_changed 16 = .ok (.return_, 1) := by decide +kernel
theorem dX3_needState_0 : decode cX3_needState 0 = .ok (.iload_n 1, 1) := by decide +kernel
theorem dX3_needState_1 : decode cX3_needState 1 = .ok (.ifCond .lt 14, 3) := by decide +kernel
theorem dX3_needState_4 : decode cX3_needState 4 = .ok (.iload_n 1, 1) := by decide +kernel
theorem dX3_needState_5 : decode cX3_needState 5 = .ok (.aload_n 0, 1) := by decide +kernel
theorem dX3_needState_6 : decode cX3_needState 6 = .ok (.getfield 10, 3) := by decide +kernel
theorem dX3_needState_9 : decode cX3_needState 9 = .ok (.getfield 34, 3) := by decide +kernel
theorem dX3_needState_12 : decode cX3_needState 12 = .ok (.if_icmp .lt 13, 3) := by decide +kernel
theorem dX3_needState_15 : decode cX3_needState 15 = .ok (.new 147, 3) := by decide +kernel
theorem dX3_needState_18 : decode cX3_needState 18 = .ok (.dup, 1) := by decide +kernel
theorem dX3_needState_19 : decode cX3_needState 19 = .ok (.ldc 191, 2) := by decide +kernel
theorem dX3_needState_21 : decode cX3_needState 21 = .ok (.invokespecial 151, 3) := by decide +kernel
theorem dX3_needState_24 : decode cX3_needState 24 = .ok (.athrow, 1) := by decide +kernel
theorem dX3_needState_25 : decode cX3_needState 25 = .ok (.return_, 1) := by decide +kernel
theorem dX3_needLabel_0 : decode cX3_needLabel 0 = .ok (.iload_n 0, 1) := by decide +kernel
theorem dX3_needLabel_1 : decode cX3_needLabel 1 = .ok (.ifCond .lt 9, 3) := by decide +kernel
theorem dX3_needLabel_4 : decode cX3_needLabel 4 = .ok (.iload_n 0, 1) := by decide +kernel
theorem dX3_needLabel_5 : decode cX3_needLabel 5 = .ok (.bipush 6, 2) := by decide +kernel
theorem dX3_needLabel_7 : decode cX3_needLabel 7 = .ok (.if_icmp .lt 13, 3) := by decide +kernel
theorem dX3_needLabel_10 : decode cX3_needLabel 10 = .ok (.new 147, 3) := by decide +kernel
theorem dX3_needLabel_13 : decode cX3_needLabel 13 = .ok (.dup, 1) := by decide +kernel
theorem dX3_needLabel_14 : decode cX3_needLabel 14 = .ok (.ldc 193, 2) := by decide +kernel
theorem dX3_needLabel_16 : decode cX3_needLabel 16 = .ok (.invokespecial 151, 3) := by decide +kernel
theorem dX3_needLabel_19 : decode cX3_needLabel 19 = .ok (.athrow, 1) := by decide +kernel
theorem dX3_needLabel_20 : decode cX3_needLabel 20 = .ok (.return_, 1) := by decide +kernel
set_option maxRecDepth 20000 in
theorem ggX3_needSet_X2_all : GoodIn wsX3_needSet wsX2_all := goodIn_r _ [8, 9, 13, 14, 15, 16, 17] (by decide +kernel) (by decide +kernel)
set_option maxRecDepth 20000 in
theorem gX3_needSet_X2_all : GoodIn wsX3_needSet (wsV RX3 195 RX2 yX2_all wsX2_all) := goodIn_app (goodIn_of _ (by decide +kernel)) ggX3_needSet_X2_all
theorem dX3_needSet_0 : decode cX3_needSet 0 = .ok (.iload_n 1, 1) := by decide +kernel
theorem dX3_needSet_1 : decode cX3_needSet 1 = .ok (.ifCond .lt 14, 3) := by decide +kernel
theorem dX3_needSet_4 : decode cX3_needSet 4 = .ok (.iload_n 1, 1) := by decide +kernel
theorem dX3_needSet_5 : decode cX3_needSet 5 = .ok (.aload_n 0, 1) := by decide +kernel
theorem dX3_needSet_6 : decode cX3_needSet 6 = .ok (.getfield 10, 3) := by decide +kernel
theorem dX3_needSet_9 : decode cX3_needSet 9 = .ok (.invokevirtual 195, 3) := by decide +kernel
theorem dX3_needSet_12 : decode cX3_needSet 12 = .ok (.if_icmp .le 13, 3) := by decide +kernel
theorem dX3_needSet_15 : decode cX3_needSet 15 = .ok (.new 198, 3) := by decide +kernel
theorem dX3_needSet_18 : decode cX3_needSet 18 = .ok (.dup, 1) := by decide +kernel
theorem dX3_needSet_19 : decode cX3_needSet 19 = .ok (.ldc 200, 2) := by decide +kernel
theorem dX3_needSet_21 : decode cX3_needSet 21 = .ok (.invokespecial 202, 3) := by decide +kernel
theorem dX3_needSet_24 : decode cX3_needSet 24 = .ok (.athrow, 1) := by decide +kernel
theorem dX3_needSet_25 : decode cX3_needSet 25 = .ok (.return_, 1) := by decide +kernel
set_option maxRecDepth 20000 in
theorem ggX3_needRegion_X1_count : GoodIn wsX3_needRegion wsX1_count := goodIn_r _ [8, 9, 10, 11, 12, 13, 7, 14, 15, 16, 17, 18, 19, 20, 21, 22, 23, 24, 25, 26, 27, 28, 29, 30, 31, 32, 33, 37, 38, 39, 40, 41, 42, 43, 44, 45] (by decide +kernel) (by decide +kernel)
set_option maxRecDepth 20000 in
theorem gX3_needRegion_X1_count : GoodIn wsX3_needRegion (wsV RX3 95 RX1 yX1_count wsX1_count) := goodIn_app (goodIn_of _ (by decide +kernel)) ggX3_needRegion_X1_count
theorem dX3_needRegion_0 : decode cX3_needRegion 0 = .ok (.iload_n 1, 1) := by decide +kernel
theorem dX3_needRegion_1 : decode cX3_needRegion 1 = .ok (.ifCond .lt 14, 3) := by decide +kernel
theorem dX3_needRegion_4 : decode cX3_needRegion 4 = .ok (.iload_n 1, 1) := by decide +kernel
theorem dX3_needRegion_5 : decode cX3_needRegion 5 = .ok (.aload_n 0, 1) := by decide +kernel
theorem dX3_needRegion_6 : decode cX3_needRegion 6 = .ok (.getfield 21, 3) := by decide +kernel
theorem dX3_needRegion_9 : decode cX3_needRegion 9 = .ok (.invokevirtual 95, 3) := by decide +kernel
theorem dX3_needRegion_12 : decode cX3_needRegion 12 = .ok (.if_icmp .lt 13, 3) := by decide +kernel
theorem dX3_needRegion_15 : decode cX3_needRegion 15 = .ok (.new 147, 3) := by decide +kernel
theorem dX3_needRegion_18 : decode cX3_needRegion 18 = .ok (.dup, 1) := by decide +kernel
theorem dX3_needRegion_19 : decode cX3_needRegion 19 = .ok (.ldc 203, 2) := by decide +kernel
theorem dX3_needRegion_21 : decode cX3_needRegion 21 = .ok (.invokespecial 151, 3) := by decide +kernel
theorem dX3_needRegion_24 : decode cX3_needRegion 24 = .ok (.athrow, 1) := by decide +kernel
theorem dX3_needRegion_25 : decode cX3_needRegion 25 = .ok (.return_, 1) := by decide +kernel
theorem dX3_needNet_0 : decode cX3_needNet 0 = .ok (.aload_n 0, 1) := by decide +kernel
theorem dX3_needNet_1 : decode cX3_needNet 1 = .ok (.getfield 30, 3) := by decide +kernel
theorem dX3_needNet_4 : decode cX3_needNet 4 = .ok (.getfield 128, 3) := by decide +kernel
theorem dX3_needNet_7 : decode cX3_needNet 7 = .ok (.ifCond .ne 13, 3) := by decide +kernel
theorem dX3_needNet_10 : decode cX3_needNet 10 = .ok (.new 38, 3) := by decide +kernel
theorem dX3_needNet_13 : decode cX3_needNet 13 = .ok (.dup, 1) := by decide +kernel
theorem dX3_needNet_14 : decode cX3_needNet 14 = .ok (.ldc 205, 2) := by decide +kernel
theorem dX3_needNet_16 : decode cX3_needNet 16 = .ok (.invokespecial 42, 3) := by decide +kernel
theorem dX3_needNet_19 : decode cX3_needNet 19 = .ok (.athrow, 1) := by decide +kernel
theorem dX3_needNet_20 : decode cX3_needNet 20 = .ok (.return_, 1) := by decide +kernel
theorem dX3_has_0 : decode cX3_has 0 = .ok (.iload_n 0, 1) := by decide +kernel
theorem dX3_has_1 : decode cX3_has 1 = .ok (.iload_n 1, 1) := by decide +kernel
theorem dX3_has_2 : decode cX3_has 2 = .ok (.ishr, 1) := by decide +kernel
theorem dX3_has_3 : decode cX3_has 3 = .ok (.iconst 1, 1) := by decide +kernel
theorem dX3_has_4 : decode cX3_has 4 = .ok (.iand, 1) := by decide +kernel
theorem dX3_has_5 : decode cX3_has 5 = .ok (.ifCond .eq 7, 3) := by decide +kernel
theorem dX3_has_8 : decode cX3_has 8 = .ok (.iconst 1, 1) := by decide +kernel
theorem dX3_has_9 : decode cX3_has 9 = .ok (.goto 4, 3) := by decide +kernel
theorem dX3_has_12 : decode cX3_has 12 = .ok (.iconst 0, 1) := by decide +kernel
theorem dX3_has_13 : decode cX3_has 13 = .ok (.ireturn, 1) := by decide +kernel
theorem dJ6_bitCount_0f7a4_0 : decode cJ6_bitCount_0f7a4 0 = .ok (.iload_n 0, 1) := by decide +kernel
theorem dJ6_bitCount_0f7a4_1 : decode cJ6_bitCount_0f7a4 1 = .ok (.iload_n 0, 1) := by decide +kernel
theorem dJ6_bitCount_0f7a4_2 : decode cJ6_bitCount_0f7a4 2 = .ok (.iconst 1, 1) := by decide +kernel
theorem dJ6_bitCount_0f7a4_3 : decode cJ6_bitCount_0f7a4 3 = .ok (.iushr, 1) := by decide +kernel
theorem dJ6_bitCount_0f7a4_4 : decode cJ6_bitCount_0f7a4 4 = .ok (.ldc_w 265, 3) := by decide +kernel
theorem dJ6_bitCount_0f7a4_7 : decode cJ6_bitCount_0f7a4 7 = .ok (.iand, 1) := by decide +kernel
theorem dJ6_bitCount_0f7a4_8 : decode cJ6_bitCount_0f7a4 8 = .ok (.isub, 1) := by decide +kernel
theorem dJ6_bitCount_0f7a4_9 : decode cJ6_bitCount_0f7a4 9 = .ok (.istore_n 0, 1) := by decide +kernel
theorem dJ6_bitCount_0f7a4_10 : decode cJ6_bitCount_0f7a4 10 = .ok (.iload_n 0, 1) := by decide +kernel
theorem dJ6_bitCount_0f7a4_11 : decode cJ6_bitCount_0f7a4 11 = .ok (.ldc_w 266, 3) := by decide +kernel
theorem dJ6_bitCount_0f7a4_14 : decode cJ6_bitCount_0f7a4 14 = .ok (.iand, 1) := by decide +kernel
theorem dJ6_bitCount_0f7a4_15 : decode cJ6_bitCount_0f7a4 15 = .ok (.iload_n 0, 1) := by decide +kernel
theorem dJ6_bitCount_0f7a4_16 : decode cJ6_bitCount_0f7a4 16 = .ok (.iconst 2, 1) := by decide +kernel
theorem dJ6_bitCount_0f7a4_17 : decode cJ6_bitCount_0f7a4 17 = .ok (.iushr, 1) := by decide +kernel
theorem dJ6_bitCount_0f7a4_18 : decode cJ6_bitCount_0f7a4 18 = .ok (.ldc_w 266, 3) := by decide +kernel
theorem dJ6_bitCount_0f7a4_21 : decode cJ6_bitCount_0f7a4 21 = .ok (.iand, 1) := by decide +kernel
theorem dJ6_bitCount_0f7a4_22 : decode cJ6_bitCount_0f7a4 22 = .ok (.iadd, 1) := by decide +kernel
theorem dJ6_bitCount_0f7a4_23 : decode cJ6_bitCount_0f7a4 23 = .ok (.istore_n 0, 1) := by decide +kernel
theorem dJ6_bitCount_0f7a4_24 : decode cJ6_bitCount_0f7a4 24 = .ok (.iload_n 0, 1) := by decide +kernel
theorem dJ6_bitCount_0f7a4_25 : decode cJ6_bitCount_0f7a4 25 = .ok (.iload_n 0, 1) := by decide +kernel
theorem dJ6_bitCount_0f7a4_26 : decode cJ6_bitCount_0f7a4 26 = .ok (.iconst 4, 1) := by decide +kernel
theorem dJ6_bitCount_0f7a4_27 : decode cJ6_bitCount_0f7a4 27 = .ok (.iushr, 1) := by decide +kernel
theorem dJ6_bitCount_0f7a4_28 : decode cJ6_bitCount_0f7a4 28 = .ok (.iadd, 1) := by decide +kernel
theorem dJ6_bitCount_0f7a4_29 : decode cJ6_bitCount_0f7a4 29 = .ok (.ldc_w 267, 3) := by decide +kernel
theorem dJ6_bitCount_0f7a4_32 : decode cJ6_bitCount_0f7a4 32 = .ok (.iand, 1) := by decide +kernel
theorem dJ6_bitCount_0f7a4_33 : decode cJ6_bitCount_0f7a4 33 = .ok (.istore_n 0, 1) := by decide +kernel
theorem dJ6_bitCount_0f7a4_34 : decode cJ6_bitCount_0f7a4 34 = .ok (.iload_n 0, 1) := by decide +kernel
theorem dJ6_bitCount_0f7a4_35 : decode cJ6_bitCount_0f7a4 35 = .ok (.iload_n 0, 1) := by decide +kernel
theorem dJ6_bitCount_0f7a4_36 : decode cJ6_bitCount_0f7a4 36 = .ok (.bipush 8, 2) := by decide +kernel
theorem dJ6_bitCount_0f7a4_38 : decode cJ6_bitCount_0f7a4 38 = .ok (.iushr, 1) := by decide +kernel
theorem dJ6_bitCount_0f7a4_39 : decode cJ6_bitCount_0f7a4 39 = .ok (.iadd, 1) := by decide +kernel
theorem dJ6_bitCount_0f7a4_40 : decode cJ6_bitCount_0f7a4 40 = .ok (.istore_n 0, 1) := by decide +kernel
theorem dJ6_bitCount_0f7a4_41 : decode cJ6_bitCount_0f7a4 41 = .ok (.iload_n 0, 1) := by decide +kernel
theorem dJ6_bitCount_0f7a4_42 : decode cJ6_bitCount_0f7a4 42 = .ok (.iload_n 0, 1) := by decide +kernel
theorem dJ6_bitCount_0f7a4_43 : decode cJ6_bitCount_0f7a4 43 = .ok (.bipush 16, 2) := by decide +kernel
theorem dJ6_bitCount_0f7a4_45 : decode cJ6_bitCount_0f7a4 45 = .ok (.iushr, 1) := by decide +kernel
theorem dJ6_bitCount_0f7a4_46 : decode cJ6_bitCount_0f7a4 46 = .ok (.iadd, 1) := by decide +kernel
theorem dJ6_bitCount_0f7a4_47 : decode cJ6_bitCount_0f7a4 47 = .ok (.istore_n 0, 1) := by decide +kernel
theorem dJ6_bitCount_0f7a4_48 : decode cJ6_bitCount_0f7a4 48 = .ok (.iload_n 0, 1) := by decide +kernel
theorem dJ6_bitCount_0f7a4_49 : decode cJ6_bitCount_0f7a4 49 = .ok (.bipush 63, 2) := by decide +kernel
theorem dJ6_bitCount_0f7a4_51 : decode cJ6_bitCount_0f7a4 51 = .ok (.iand, 1) := by decide +kernel
theorem dJ6_bitCount_0f7a4_52 : decode cJ6_bitCount_0f7a4 52 = .ok (.ireturn, 1) := by decide +kernel
theorem dJ9_min_7cf53_0 : decode cJ9_min_7cf53 0 = .ok (.iload_n 0, 1) := by decide +kernel
theorem dJ9_min_7cf53_1 : decode cJ9_min_7cf53 1 = .ok (.iload_n 1, 1) := by decide +kernel
theorem dJ9_min_7cf53_2 : decode cJ9_min_7cf53 2 = .ok (.if_icmp .gt 7, 3) := by decide +kernel
