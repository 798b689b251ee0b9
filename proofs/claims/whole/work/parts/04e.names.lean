set_option maxRecDepth 20000 in
theorem gX4_enabled_X4_fail : GoodIn wsX4_enabled (wsV RX4 36 RX4 yX4_fail wsX4_fail) := goodIn_app (goodIn_of _ (by decide +kernel)) ggX4_enabled_X4_fail
set_option maxRecDepth 20000 in
theorem ggX4_enabled_X4_to : GoodIn wsX4_enabled wsX4_to := goodIn_r _ [15, 16, 17, 18, 19, 20, 21, 22, 23, 24, 25, 26, 27, 28] (by decide +kernel) (by decide +kernel)
set_option maxRecDepth 20000 in
theorem gX4_enabled_X4_to : GoodIn wsX4_enabled (wsV RX4 50 RX4 yX4_to wsX4_to) := goodIn_app (goodIn_of _ (by decide +kernel)) ggX4_enabled_X4_to
theorem dX4_enabled_0 : decode cX4_enabled 0 = .ok (.aload_n 0, 1) := by decide +kernel
theorem dX4_enabled_1 : decode cX4_enabled 1 = .ok (.iconst 0, 1) := by decide +kernel
theorem dX4_enabled_2 : decode cX4_enabled 2 = .ok (.putfield 26, 3) := by decide +kernel
theorem dX4_enabled_5 : decode cX4_enabled 5 = .ok (.aload_n 0, 1) := by decide +kernel
theorem dX4_enabled_6 : decode cX4_enabled 6 = .ok (.iload_n 1, 1) := by decide +kernel
theorem dX4_enabled_7 : decode cX4_enabled 7 = .ok (.invokevirtual 43, 3) := by decide +kernel
theorem dX4_enabled_10 : decode cX4_enabled 10 = .ok (.ifCond .ne 9, 3) := by decide +kernel
theorem dX4_enabled_13 : decode cX4_enabled 13 = .ok (.aload_n 0, 1) := by decide +kernel
theorem dX4_enabled_14 : decode cX4_enabled 14 = .ok (.iconst 1, 1) := by decide +kernel
theorem dX4_enabled_15 : decode cX4_enabled 15 = .ok (.invokevirtual 36, 3) := by decide +kernel
theorem dX4_enabled_18 : decode cX4_enabled 18 = .ok (.ireturn, 1) := by decide +kernel
theorem dX4_enabled_19 : decode cX4_enabled 19 = .ok (.iconst 0, 1) := by decide +kernel
theorem dX4_enabled_20 : decode cX4_enabled 20 = .ok (.istore_n 2, 1) := by decide +kernel
theorem dX4_enabled_21 : decode cX4_enabled 21 = .ok (.iconst 0, 1) := by decide +kernel
theorem dX4_enabled_22 : decode cX4_enabled 22 = .ok (.istore_n 3, 1) := by decide +kernel
theorem dX4_enabled_23 : decode cX4_enabled 23 = .ok (.iload_n 3, 1) := by decide +kernel
theorem dX4_enabled_24 : decode cX4_enabled 24 = .ok (.bipush 6, 2) := by decide +kernel
theorem dX4_enabled_26 : decode cX4_enabled 26 = .ok (.if_icmp .ge 25, 3) := by decide +kernel
theorem dX4_enabled_29 : decode cX4_enabled 29 = .ok (.aload_n 0, 1) := by decide +kernel
theorem dX4_enabled_30 : decode cX4_enabled 30 = .ok (.iload_n 1, 1) := by decide +kernel
theorem dX4_enabled_31 : decode cX4_enabled 31 = .ok (.iload_n 3, 1) := by decide +kernel
theorem dX4_enabled_32 : decode cX4_enabled 32 = .ok (.invokevirtual 50, 3) := by decide +kernel
theorem dX4_enabled_35 : decode cX4_enabled 35 = .ok (.iconst (-1), 1) := by decide +kernel
theorem dX4_enabled_36 : decode cX4_enabled 36 = .ok (.if_icmp .eq 9, 3) := by decide +kernel
theorem dX4_enabled_39 : decode cX4_enabled 39 = .ok (.iload_n 2, 1) := by decide +kernel
theorem dX4_enabled_40 : decode cX4_enabled 40 = .ok (.iconst 1, 1) := by decide +kernel
theorem dX4_enabled_41 : decode cX4_enabled 41 = .ok (.iload_n 3, 1) := by decide +kernel
theorem dX4_enabled_42 : decode cX4_enabled 42 = .ok (.ishl, 1) := by decide +kernel
theorem dX4_enabled_43 : decode cX4_enabled 43 = .ok (.ior, 1) := by decide +kernel
theorem dX4_enabled_44 : decode cX4_enabled 44 = .ok (.istore_n 2, 1) := by decide +kernel
theorem dX4_enabled_45 : decode cX4_enabled 45 = .ok (.iinc 3 1, 3) := by decide +kernel
theorem dX4_enabled_48 : decode cX4_enabled 48 = .ok (.goto (-25), 3) := by decide +kernel
theorem dX4_enabled_51 : decode cX4_enabled 51 = .ok (.iload_n 2, 1) := by decide +kernel
theorem dX4_enabled_52 : decode cX4_enabled 52 = .ok (.ireturn, 1) := by decide +kernel
set_option maxRecDepth 20000 in
theorem ggX4_goOn_X4_has : GoodIn wsX4_goOn wsX4_has := goodIn_r _ [5] (by decide +kernel) (by decide +kernel)
set_option maxRecDepth 20000 in
theorem gX4_goOn_X4_has : GoodIn wsX4_goOn (va_wsS RX4 54 yX4_has wsX4_has) := goodIn_app (goodIn_of _ (by decide +kernel)) ggX4_goOn_X4_has
set_option maxRecDepth 20000 in
theorem ggX4_goOn_X4_to : GoodIn wsX4_goOn wsX4_to := goodIn_r _ [9, 10, 11, 12, 13, 14, 15, 16, 17, 18, 19, 20, 21, 22] (by decide +kernel) (by decide +kernel)
set_option maxRecDepth 20000 in
theorem gX4_goOn_X4_to : GoodIn wsX4_goOn (wsV RX4 50 RX4 yX4_to wsX4_to) := goodIn_app (goodIn_of _ (by decide +kernel)) ggX4_goOn_X4_to
theorem dX4_goOn_0 : decode cX4_goOn 0 = .ok (.iload_n 1, 1) := by decide +kernel
theorem dX4_goOn_1 : decode cX4_goOn 1 = .ok (.istore_n 2, 1) := by decide +kernel
theorem dX4_goOn_2 : decode cX4_goOn 2 = .ok (.iconst 0, 1) := by decide +kernel
theorem dX4_goOn_3 : decode cX4_goOn 3 = .ok (.istore_n 3, 1) := by decide +kernel
theorem dX4_goOn_4 : decode cX4_goOn 4 = .ok (.iload_n 3, 1) := by decide +kernel
theorem dX4_goOn_5 : decode cX4_goOn 5 = .ok (.aload_n 0, 1) := by decide +kernel
theorem dX4_goOn_6 : decode cX4_goOn 6 = .ok (.getfield 9, 3) := by decide +kernel
theorem dX4_goOn_9 : decode cX4_goOn 9 = .ok (.if_icmp .ge 56, 3) := by decide +kernel
theorem dX4_goOn_12 : decode cX4_goOn 12 = .ok (.iconst 0, 1) := by decide +kernel
theorem dX4_goOn_13 : decode cX4_goOn 13 = .ok (.istore 4, 2) := by decide +kernel
theorem dX4_goOn_15 : decode cX4_goOn 15 = .ok (.iload 4, 2) := by decide +kernel
theorem dX4_goOn_17 : decode cX4_goOn 17 = .ok (.bipush 6, 2) := by decide +kernel
theorem dX4_goOn_19 : decode cX4_goOn 19 = .ok (.if_icmp .ge 40, 3) := by decide +kernel
theorem dX4_goOn_22 : decode cX4_goOn 22 = .ok (.iload_n 1, 1) := by decide +kernel
theorem dX4_goOn_23 : decode cX4_goOn 23 = .ok (.iload_n 3, 1) := by decide +kernel
theorem dX4_goOn_24 : decode cX4_goOn 24 = .ok (.invokestatic 54, 3) := by decide +kernel
theorem dX4_goOn_27 : decode cX4_goOn 27 = .ok (.ifCond .eq 26, 3) := by decide +kernel
theorem dX4_goOn_30 : decode cX4_goOn 30 = .ok (.aload_n 0, 1) := by decide +kernel
theorem dX4_goOn_31 : decode cX4_goOn 31 = .ok (.iload_n 3, 1) := by decide +kernel
theorem dX4_goOn_32 : decode cX4_goOn 32 = .ok (.iload 4, 2) := by decide +kernel
theorem dX4_goOn_34 : decode cX4_goOn 34 = .ok (.invokevirtual 50, 3) := by decide +kernel
theorem dX4_goOn_37 : decode cX4_goOn 37 = .ok (.iconst (-1), 1) := by decide +kernel
theorem dX4_goOn_38 : decode cX4_goOn 38 = .ok (.if_icmp .eq 15, 3) := by decide +kernel
theorem dX4_goOn_41 : decode cX4_goOn 41 = .ok (.iload_n 2, 1) := by decide +kernel
theorem dX4_goOn_42 : decode cX4_goOn 42 = .ok (.iconst 1, 1) := by decide +kernel
theorem dX4_goOn_43 : decode cX4_goOn 43 = .ok (.aload_n 0, 1) := by decide +kernel
theorem dX4_goOn_44 : decode cX4_goOn 44 = .ok (.iload_n 3, 1) := by decide +kernel
theorem dX4_goOn_45 : decode cX4_goOn 45 = .ok (.iload 4, 2) := by decide +kernel
theorem dX4_goOn_47 : decode cX4_goOn 47 = .ok (.invokevirtual 50, 3) := by decide +kernel
theorem dX4_goOn_50 : decode cX4_goOn 50 = .ok (.ishl, 1) := by decide +kernel
theorem dX4_goOn_51 : decode cX4_goOn 51 = .ok (.ior, 1) := by decide +kernel
theorem dX4_goOn_52 : decode cX4_goOn 52 = .ok (.istore_n 2, 1) := by decide +kernel
theorem dX4_goOn_53 : decode cX4_goOn 53 = .ok (.iinc 4 1, 3) := by decide +kernel
theorem dX4_goOn_56 : decode cX4_goOn 56 = .ok (.goto (-41), 3) := by decide +kernel
theorem dX4_goOn_59 : decode cX4_goOn 59 = .ok (.iinc 3 1, 3) := by decide +kernel
theorem dX4_goOn_62 : decode cX4_goOn 62 = .ok (.goto (-58), 3) := by decide +kernel
theorem dX4_goOn_65 : decode cX4_goOn 65 = .ok (.iload_n 2, 1) := by decide +kernel
theorem dX4_goOn_66 : decode cX4_goOn 66 = .ok (.ireturn, 1) := by decide +kernel
set_option maxRecDepth 20000 in
theorem ggX4_reached_X4_goOn : GoodIn wsX4_reached wsX4_goOn := goodIn_r _ [6, 7, 8, 9, 5, 10, 11, 12, 13, 14, 15, 16, 17, 18, 19, 20, 21, 22, 23, 24, 25, 26, 27] (by decide +kernel) (by decide +kernel)
set_option maxRecDepth 20000 in
theorem gX4_reached_X4_goOn : GoodIn wsX4_reached (wsV RX4 58 RX4 yX4_goOn wsX4_goOn) := goodIn_app (goodIn_of _ (by decide +kernel)) ggX4_reached_X4_goOn
theorem dX4_reached_0 : decode cX4_reached 0 = .ok (.aload_n 0, 1) := by decide +kernel
theorem dX4_reached_1 : decode cX4_reached 1 = .ok (.iconst 0, 1) := by decide +kernel
theorem dX4_reached_2 : decode cX4_reached 2 = .ok (.putfield 26, 3) := by decide +kernel
theorem dX4_reached_5 : decode cX4_reached 5 = .ok (.iconst 1, 1) := by decide +kernel
theorem dX4_reached_6 : decode cX4_reached 6 = .ok (.istore_n 1, 1) := by decide +kernel
theorem dX4_reached_7 : decode cX4_reached 7 = .ok (.aload_n 0, 1) := by decide +kernel
theorem dX4_reached_8 : decode cX4_reached 8 = .ok (.iload_n 1, 1) := by decide +kernel
theorem dX4_reached_9 : decode cX4_reached 9 = .ok (.invokevirtual 58, 3) := by decide +kernel
theorem dX4_reached_12 : decode cX4_reached 12 = .ok (.iload_n 1, 1) := by decide +kernel
theorem dX4_reached_13 : decode cX4_reached 13 = .ok (.if_icmp .eq 12, 3) := by decide +kernel
theorem dX4_reached_16 : decode cX4_reached 16 = .ok (.aload_n 0, 1) := by decide +kernel
theorem dX4_reached_17 : decode cX4_reached 17 = .ok (.iload_n 1, 1) := by decide +kernel
theorem dX4_reached_18 : decode cX4_reached 18 = .ok (.invokevirtual 58, 3) := by decide +kernel
theorem dX4_reached_21 : decode cX4_reached 21 = .ok (.istore_n 1, 1) := by decide +kernel
theorem dX4_reached_22 : decode cX4_reached 22 = .ok (.goto (-15), 3) := by decide +kernel
theorem dX4_reached_25 : decode cX4_reached 25 = .ok (.iload_n 1, 1) := by decide +kernel
theorem dX4_reached_26 : decode cX4_reached 26 = .ok (.ireturn, 1) := by decide +kernel
set_option maxRecDepth 20000 in
theorem ggX4_distance_X4_isState : GoodIn wsX4_distance wsX4_isState := goodIn_r _ [6, 7, 24, 25, 26, 27, 28, 29, 30, 31, 32, 33, 34, 35] (by decide +kernel) (by decide +kernel)
set_option maxRecDepth 20000 in
theorem gX4_distance_X4_isState : GoodIn wsX4_distance (wsV RX4 43 RX4 yX4_isState wsX4_isState) := goodIn_app (goodIn_of _ (by decide +kernel)) ggX4_distance_X4_isState
set_option maxRecDepth 20000 in
theorem ggX4_distance_X4_fail : GoodIn wsX4_distance wsX4_fail := goodIn_r _ [11, 1, 24, 25, 26, 27, 28, 29, 30, 31, 32, 33, 34, 35] (by decide +kernel) (by decide +kernel)
set_option maxRecDepth 20000 in
theorem gX4_distance_X4_fail : GoodIn wsX4_distance (wsV RX4 36 RX4 yX4_fail wsX4_fail) := goodIn_app (goodIn_of _ (by decide +kernel)) ggX4_distance_X4_fail
set_option maxRecDepth 20000 in
theorem ggX4_distance_X4_has : GoodIn wsX4_distance wsX4_has := goodIn_r _ [14] (by decide +kernel) (by decide +kernel)
set_option maxRecDepth 20000 in
theorem gX4_distance_X4_has : GoodIn wsX4_distance (va_wsS RX4 54 yX4_has wsX4_has) := goodIn_app (goodIn_of _ (by decide +kernel)) ggX4_distance_X4_has
set_option maxRecDepth 20000 in
theorem ggX4_distance_X4_goOn : GoodIn wsX4_distance wsX4_goOn := goodIn_r _ [18, 7, 12, 13, 5, 14, 19, 20, 21, 22, 23, 24, 25, 26, 27, 28, 29, 30, 31, 32, 33, 34, 35] (by decide +kernel) (by decide +kernel)
set_option maxRecDepth 20000 in
theorem gX4_distance_X4_goOn : GoodIn wsX4_distance (wsV RX4 58 RX4 yX4_goOn wsX4_goOn) := goodIn_app (goodIn_of _ (by decide +kernel)) ggX4_distance_X4_goOn
theorem dX4_distance_0 : decode cX4_distance 0 = .ok (.aload_n 0, 1) := by decide +kernel
theorem dX4_distance_1 : decode cX4_distance 1 = .ok (.iconst 0, 1) := by decide +kernel
theorem dX4_distance_2 : decode cX4_distance 2 = .ok (.putfield 26, 3) := by decide +kernel
theorem dX4_distance_5 : decode cX4_distance 5 = .ok (.aload_n 0, 1) := by decide +kernel
theorem dX4_distance_6 : decode cX4_distance 6 = .ok (.iload_n 1, 1) := by decide +kernel
theorem dX4_distance_7 : decode cX4_distance 7 = .ok (.invokevirtual 43, 3) := by decide +kernel
theorem dX4_distance_10 : decode cX4_distance 10 = .ok (.ifCond .ne 9, 3) := by decide +kernel
theorem dX4_distance_13 : decode cX4_distance 13 = .ok (.aload_n 0, 1) := by decide +kernel
theorem dX4_distance_14 : decode cX4_distance 14 = .ok (.iconst 1, 1) := by decide +kernel
theorem dX4_distance_15 : decode cX4_distance 15 = .ok (.invokevirtual 36, 3) := by decide +kernel
theorem dX4_distance_18 : decode cX4_distance 18 = .ok (.ireturn, 1) := by decide +kernel
theorem dX4_distance_19 : decode cX4_distance 19 = .ok (.iconst 1, 1) := by decide +kernel
theorem dX4_distance_20 : decode cX4_distance 20 = .ok (.istore_n 2, 1) := by decide +kernel
theorem dX4_distance_21 : decode cX4_distance 21 = .ok (.iconst 0, 1) := by decide +kernel
theorem dX4_distance_22 : decode cX4_distance 22 = .ok (.istore_n 3, 1) := by decide +kernel
theorem dX4_distance_23 : decode cX4_distance 23 = .ok (.iload_n 3, 1) := by decide +kernel
theorem dX4_distance_24 : decode cX4_distance 24 = .ok (.bipush 12, 2) := by decide +kernel
theorem dX4_distance_26 : decode cX4_distance 26 = .ok (.if_icmp .ge 25, 3) := by decide +kernel
theorem dX4_distance_29 : decode cX4_distance 29 = .ok (.iload_n 2, 1) := by decide +kernel
theorem dX4_distance_30 : decode cX4_distance 30 = .ok (.iload_n 1, 1) := by decide +kernel
theorem dX4_distance_31 : decode cX4_distance 31 = .ok (.invokestatic 54, 3) := by decide +kernel
theorem dX4_distance_34 : decode cX4_distance 34 = .ok (.ifCond .eq 5, 3) := by decide +kernel
theorem dX4_distance_37 : decode cX4_distance 37 = .ok (.iload_n 3, 1) := by decide +kernel
theorem dX4_distance_38 : decode cX4_distance 38 = .ok (.ireturn, 1) := by decide +kernel
theorem dX4_distance_39 : decode cX4_distance 39 = .ok (.aload_n 0, 1) := by decide +kernel
theorem dX4_distance_40 : decode cX4_distance 40 = .ok (.iload_n 2, 1) := by decide +kernel
theorem dX4_distance_41 : decode cX4_distance 41 = .ok (.invokevirtual 58, 3) := by decide +kernel
theorem dX4_distance_44 : decode cX4_distance 44 = .ok (.istore_n 2, 1) := by decide +kernel
theorem dX4_distance_45 : decode cX4_distance 45 = .ok (.iinc 3 1, 3) := by decide +kernel
theorem dX4_distance_48 : decode cX4_distance 48 = .ok (.goto (-25), 3) := by decide +kernel
theorem dX4_distance_51 : decode cX4_distance 51 = .ok (.iconst (-1), 1) := by decide +kernel
theorem dX4_distance_52 : decode cX4_distance 52 = .ok (.ireturn, 1) := by decide +kernel
set_option maxRecDepth 20000 in
theorem ggX4_way_X4_to : GoodIn wsX4_way wsX4_to := goodIn_r _ [6, 7, 11, 12, 13, 14, 15, 16, 17, 18, 19, 20, 21, 22] (by decide +kernel) (by decide +kernel)
set_option maxRecDepth 20000 in
theorem gX4_way_X4_to : GoodIn wsX4_way (wsV RX4 50 RX4 yX4_to wsX4_to) := goodIn_app (goodIn_of _ (by decide +kernel)) ggX4_way_X4_to
set_option maxRecDepth 20000 in
theorem ggX4_way_X4_has : GoodIn wsX4_way wsX4_has := goodIn_r _ [10] (by decide +kernel) (by decide +kernel)
set_option maxRecDepth 20000 in
theorem gX4_way_X4_has : GoodIn wsX4_way (va_wsS RX4 54 yX4_has wsX4_has) := goodIn_app (goodIn_of _ (by decide +kernel)) ggX4_way_X4_has
theorem dX4_way_0 : decode cX4_way 0 = .ok (.iconst 0, 1) := by decide +kernel
theorem dX4_way_1 : decode cX4_way 1 = .ok (.istore_n 3, 1) := by decide +kernel
theorem dX4_way_2 : decode cX4_way 2 = .ok (.iconst 0, 1) := by decide +kernel
theorem dX4_way_3 : decode cX4_way 3 = .ok (.istore 4, 2) := by decide +kernel
theorem dX4_way_5 : decode cX4_way 5 = .ok (.iconst 0, 1) := by decide +kernel
theorem dX4_way_6 : decode cX4_way 6 = .ok (.istore 5, 2) := by decide +kernel
theorem dX4_way_8 : decode cX4_way 8 = .ok (.iconst 0, 1) := by decide +kernel
theorem dX4_way_9 : decode cX4_way 9 = .ok (.istore 6, 2) := by decide +kernel
theorem dX4_way_11 : decode cX4_way 11 = .ok (.iload 6, 2) := by decide +kernel
theorem dX4_way_13 : decode cX4_way 13 = .ok (.aload_n 0, 1) := by decide +kernel
theorem dX4_way_14 : decode cX4_way 14 = .ok (.getfield 9, 3) := by decide +kernel
theorem dX4_way_17 : decode cX4_way 17 = .ok (.if_icmp .ge 84, 3) := by decide +kernel
theorem dX4_way_20 : decode cX4_way 20 = .ok (.aload_n 0, 1) := by decide +kernel
theorem dX4_way_21 : decode cX4_way 21 = .ok (.iload 6, 2) := by decide +kernel
theorem dX4_way_23 : decode cX4_way 23 = .ok (.iload_n 2, 1) := by decide +kernel
theorem dX4_way_24 : decode cX4_way 24 = .ok (.invokevirtual 50, 3) := by decide +kernel
theorem dX4_way_27 : decode cX4_way 27 = .ok (.istore 7, 2) := by decide +kernel
theorem dX4_way_29 : decode cX4_way 29 = .ok (.iload 7, 2) := by decide +kernel
theorem dX4_way_31 : decode cX4_way 31 = .ok (.iconst (-1), 1) := by decide +kernel
theorem dX4_way_32 : decode cX4_way 32 = .ok (.if_icmp .ne 6, 3) := by decide +kernel
theorem dX4_way_35 : decode cX4_way 35 = .ok (.goto 60, 3) := by decide +kernel
theorem dX4_way_38 : decode cX4_way 38 = .ok (.iinc 5 1, 3) := by decide +kernel
theorem dX4_way_41 : decode cX4_way 41 = .ok (.iload_n 3, 1) := by decide +kernel
theorem dX4_way_42 : decode cX4_way 42 = .ok (.iload_n 1, 1) := by decide +kernel
theorem dX4_way_43 : decode cX4_way 43 = .ok (.iload 6, 2) := by decide +kernel
theorem dX4_way_45 : decode cX4_way 45 = .ok (.invokestatic 54, 3) := by decide +kernel
theorem dX4_way_48 : decode cX4_way 48 = .ok (.ifCond .ne 16, 3) := by decide +kernel
theorem dX4_way_51 : decode cX4_way 51 = .ok (.iload_n 1, 1) := by decide +kernel
theorem dX4_way_52 : decode cX4_way 52 = .ok (.iload 7, 2) := by decide +kernel
theorem dX4_way_54 : decode cX4_way 54 = .ok (.invokestatic 54, 3) := by decide +kernel
theorem dX4_way_57 : decode cX4_way 57 = .ok (.ifCond .eq 7, 3) := by decide +kernel
theorem dX4_way_60 : decode cX4_way 60 = .ok (.iconst 1, 1) := by decide +kernel
theorem dX4_way_61 : decode cX4_way 61 = .ok (.goto 4, 3) := by decide +kernel
theorem dX4_way_64 : decode cX4_way 64 = .ok (.iconst 0, 1) := by decide +kernel
theorem dX4_way_65 : decode cX4_way 65 = .ok (.iadd, 1) := by decide +kernel
theorem dX4_way_66 : decode cX4_way 66 = .ok (.istore_n 3, 1) := by decide +kernel
theorem dX4_way_67 : decode cX4_way 67 = .ok (.iload 4, 2) := by decide +kernel
theorem dX4_way_69 : decode cX4_way 69 = .ok (.iload_n 1, 1) := by decide +kernel
theorem dX4_way_70 : decode cX4_way 70 = .ok (.iload 6, 2) := by decide +kernel
theorem dX4_way_72 : decode cX4_way 72 = .ok (.invokestatic 54, 3) := by decide +kernel
theorem dX4_way_75 : decode cX4_way 75 = .ok (.ifCond .eq 16, 3) := by decide +kernel
theorem dX4_way_78 : decode cX4_way 78 = .ok (.iload_n 1, 1) := by decide +kernel
theorem dX4_way_79 : decode cX4_way 79 = .ok (.iload 7, 2) := by decide +kernel
theorem dX4_way_81 : decode cX4_way 81 = .ok (.invokestatic 54, 3) := by decide +kernel
theorem dX4_way_84 : decode cX4_way 84 = .ok (.ifCond .ne 7, 3) := by decide +kernel
theorem dX4_way_87 : decode cX4_way 87 = .ok (.iconst 1, 1) := by decide +kernel
theorem dX4_way_88 : decode cX4_way 88 = .ok (.goto 4, 3) := by decide +kernel
theorem dX4_way_91 : decode cX4_way 91 = .ok (.iconst 0, 1) := by decide +kernel
theorem dX4_way_92 : decode cX4_way 92 = .ok (.iadd, 1) := by decide +kernel
theorem dX4_way_93 : decode cX4_way 93 = .ok (.istore 4, 2) := by decide +kernel
theorem dX4_way_95 : decode cX4_way 95 = .ok (.iinc 6 1, 3) := by decide +kernel
theorem dX4_way_98 : decode cX4_way 98 = .ok (.goto (-87), 3) := by decide +kernel
theorem dX4_way_101 : decode cX4_way 101 = .ok (.iload_n 3, 1) := by decide +kernel
theorem dX4_way_102 : decode cX4_way 102 = .ok (.iload 4, 2) := by decide +kernel
theorem dX4_way_104 : decode cX4_way 104 = .ok (.iadd, 1) := by decide +kernel
theorem dX4_way_105 : decode cX4_way 105 = .ok (.ifCond .ne 5, 3) := by decide +kernel
theorem dX4_way_108 : decode cX4_way 108 = .ok (.iconst 0, 1) := by decide +kernel
theorem dX4_way_109 : decode cX4_way 109 = .ok (.ireturn, 1) := by decide +kernel
theorem dX4_way_110 : decode cX4_way 110 = .ok (.iload_n 3, 1) := by decide +kernel
theorem dX4_way_111 : decode cX4_way 111 = .ok (.iload 5, 2) := by decide +kernel
theorem dX4_way_113 : decode cX4_way 113 = .ok (.if_icmp .ne 7, 3) := by decide +kernel
theorem dX4_way_116 : decode cX4_way 116 = .ok (.iconst 1, 1) := by decide +kernel
theorem dX4_way_117 : decode cX4_way 117 = .ok (.goto 15, 3) := by decide +kernel
theorem dX4_way_120 : decode cX4_way 120 = .ok (.iload 4, 2) := by decide +kernel
theorem dX4_way_122 : decode cX4_way 122 = .ok (.iload 5, 2) := by decide +kernel
theorem dX4_way_124 : decode cX4_way 124 = .ok (.if_icmp .ne 7, 3) := by decide +kernel
theorem dX4_way_127 : decode cX4_way 127 = .ok (.iconst 2, 1) := by decide +kernel
theorem dX4_way_128 : decode cX4_way 128 = .ok (.goto 4, 3) := by decide +kernel
theorem dX4_way_131 : decode cX4_way 131 = .ok (.iconst 3, 1) := by decide +kernel
theorem dX4_way_132 : decode cX4_way 132 = .ok (.ireturn, 1) := by decide +kernel
set_option maxRecDepth 20000 in
theorem ggX4_mixed_X4_way : GoodIn wsX4_mixed wsX4_way := goodIn_r _ [5, 6, 7, 8, 9, 4, 10, 11, 12, 13, 14, 15, 16, 17, 18, 19, 20, 21, 22, 23, 24, 25, 26] (by decide +kernel) (by decide +kernel)
set_option maxRecDepth 20000 in
theorem gX4_mixed_X4_way : GoodIn wsX4_mixed (wsV RX4 61 RX4 yX4_way wsX4_way) := goodIn_app (goodIn_of _ (by decide +kernel)) ggX4_mixed_X4_way
theorem dX4_mixed_0 : decode cX4_mixed 0 = .ok (.iconst 0, 1) := by decide +kernel
theorem dX4_mixed_1 : decode cX4_mixed 1 = .ok (.istore_n 2, 1) := by decide +kernel
theorem dX4_mixed_2 : decode cX4_mixed 2 = .ok (.iload_n 2, 1) := by decide +kernel
theorem dX4_mixed_3 : decode cX4_mixed 3 = .ok (.bipush 6, 2) := by decide +kernel
theorem dX4_mixed_5 : decode cX4_mixed 5 = .ok (.if_icmp .ge 21, 3) := by decide +kernel
theorem dX4_mixed_8 : decode cX4_mixed 8 = .ok (.aload_n 0, 1) := by decide +kernel
theorem dX4_mixed_9 : decode cX4_mixed 9 = .ok (.iload_n 1, 1) := by decide +kernel
theorem dX4_mixed_10 : decode cX4_mixed 10 = .ok (.iload_n 2, 1) := by decide +kernel
theorem dX4_mixed_11 : decode cX4_mixed 11 = .ok (.invokevirtual 61, 3) := by decide +kernel
theorem dX4_mixed_14 : decode cX4_mixed 14 = .ok (.iconst 3, 1) := by decide +kernel
theorem dX4_mixed_15 : decode cX4_mixed 15 = .ok (.if_icmp .ne 5, 3) := by decide +kernel
theorem dX4_mixed_18 : decode cX4_mixed 18 = .ok (.iload_n 2, 1) := by decide +kernel
theorem dX4_mixed_19 : decode cX4_mixed 19 = .ok (.ireturn, 1) := by decide +kernel
theorem dX4_mixed_20 : decode cX4_mixed 20 = .ok (.iinc 2 1, 3) := by decide +kernel
theorem dX4_mixed_23 : decode cX4_mixed 23 = .ok (.goto (-21), 3) := by decide +kernel
theorem dX4_mixed_26 : decode cX4_mixed 26 = .ok (.iconst (-1), 1) := by decide +kernel
theorem dX4_mixed_27 : decode cX4_mixed 27 = .ok (.ireturn, 1) := by decide +kernel
set_option maxRecDepth 20000 in
theorem ggX4_isProper_X4_mixed : GoodIn wsX4_isProper wsX4_mixed := goodIn_r _ [6, 7, 8, 9, 5, 10, 1, 11, 12, 13, 14, 15, 16, 17, 18, 19, 20, 21, 22, 23, 24, 25, 26, 27, 28, 29, 30] (by decide +kernel) (by decide +kernel)
set_option maxRecDepth 20000 in
theorem gX4_isProper_X4_mixed : GoodIn wsX4_isProper (wsV RX4 64 RX4 yX4_mixed wsX4_mixed) := goodIn_app (goodIn_of _ (by decide +kernel)) ggX4_isProper_X4_mixed
theorem dX4_isProper_0 : decode cX4_isProper 0 = .ok (.iload_n 1, 1) := by decide +kernel
theorem dX4_isProper_1 : decode cX4_isProper 1 = .ok (.ifCond .le 28, 3) := by decide +kernel
theorem dX4_isProper_4 : decode cX4_isProper 4 = .ok (.iload_n 1, 1) := by decide +kernel
theorem dX4_isProper_5 : decode cX4_isProper 5 = .ok (.iconst 1, 1) := by decide +kernel
theorem dX4_isProper_6 : decode cX4_isProper 6 = .ok (.aload_n 0, 1) := by decide +kernel
theorem dX4_isProper_7 : decode cX4_isProper 7 = .ok (.getfield 9, 3) := by decide +kernel
theorem dX4_isProper_10 : decode cX4_isProper 10 = .ok (.ishl, 1) := by decide +kernel
theorem dX4_isProper_11 : decode cX4_isProper 11 = .ok (.iconst 1, 1) := by decide +kernel
theorem dX4_isProper_12 : decode cX4_isProper 12 = .ok (.isub, 1) := by decide +kernel
theorem dX4_isProper_13 : decode cX4_isProper 13 = .ok (.if_icmp .ge 16, 3) := by decide +kernel
theorem dX4_isProper_16 : decode cX4_isProper 16 = .ok (.aload_n 0, 1) := by decide +kernel
theorem dX4_isProper_17 : decode cX4_isProper 17 = .ok (.iload_n 1, 1) := by decide +kernel
theorem dX4_isProper_18 : decode cX4_isProper 18 = .ok (.invokevirtual 64, 3) := by decide +kernel
theorem dX4_isProper_21 : decode cX4_isProper 21 = .ok (.iconst (-1), 1) := by decide +kernel
theorem dX4_isProper_22 : decode cX4_isProper 22 = .ok (.if_icmp .ne 7, 3) := by decide +kernel
theorem dX4_isProper_25 : decode cX4_isProper 25 = .ok (.iconst 1, 1) := by decide +kernel
theorem dX4_isProper_26 : decode cX4_isProper 26 = .ok (.goto 4, 3) := by decide +kernel
theorem dX4_isProper_29 : decode cX4_isProper 29 = .ok (.iconst 0, 1) := by decide +kernel
theorem dX4_isProper_30 : decode cX4_isProper 30 = .ok (.ireturn, 1) := by decide +kernel
set_option maxRecDepth 20000 in
theorem ggX4_know_X4_isProper : GoodIn wsX4_know wsX4_isProper := goodIn_r _ [9, 3, 10, 11, 12, 8, 13, 14, 15, 16, 17, 18, 19, 20, 21, 22, 23, 24, 25, 26, 27, 28, 29, 30, 31, 32, 33, 34, 35, 36, 37] (by decide +kernel) (by decide +kernel)
set_option maxRecDepth 20000 in
theorem gX4_know_X4_isProper : GoodIn wsX4_know (wsV RX4 70 RX4 yX4_isProper wsX4_isProper) := goodIn_app (goodIn_of _ (by decide +kernel)) ggX4_know_X4_isProper
theorem dX4_know_0 : decode cX4_know 0 = .ok (.aload_n 0, 1) := by decide +kernel
theorem dX4_know_1 : decode cX4_know 1 = .ok (.getfield 29, 3) := by decide +kernel
theorem dX4_know_4 : decode cX4_know 4 = .ok (.ifCond .eq 4, 3) := by decide +kernel
theorem dX4_know_7 : decode cX4_know 7 = .ok (.return_, 1) := by decide +kernel
theorem dX4_know_8 : decode cX4_know 8 = .ok (.aload_n 0, 1) := by decide +kernel
theorem dX4_know_9 : decode cX4_know 9 = .ok (.iconst 1, 1) := by decide +kernel
theorem dX4_know_10 : decode cX4_know 10 = .ok (.putfield 29, 3) := by decide +kernel
theorem dX4_know_13 : decode cX4_know 13 = .ok (.aload_n 0, 1) := by decide +kernel
theorem dX4_know_14 : decode cX4_know 14 = .ok (.iconst 0, 1) := by decide +kernel
theorem dX4_know_15 : decode cX4_know 15 = .ok (.putfield 67, 3) := by decide +kernel
theorem dX4_know_18 : decode cX4_know 18 = .ok (.iconst 0, 1) := by decide +kernel
theorem dX4_know_19 : decode cX4_know 19 = .ok (.istore_n 1, 1) := by decide +kernel
theorem dX4_know_20 : decode cX4_know 20 = .ok (.iload_n 1, 1) := by decide +kernel
theorem dX4_know_21 : decode cX4_know 21 = .ok (.iconst 1, 1) := by decide +kernel
theorem dX4_know_22 : decode cX4_know 22 = .ok (.aload_n 0, 1) := by decide +kernel
theorem dX4_know_23 : decode cX4_know 23 = .ok (.getfield 9, 3) := by decide +kernel
theorem dX4_know_26 : decode cX4_know 26 = .ok (.ishl, 1) := by decide +kernel
theorem dX4_know_27 : decode cX4_know 27 = .ok (.if_icmp .ge 40, 3) := by decide +kernel
theorem dX4_know_30 : decode cX4_know 30 = .ok (.aload_n 0, 1) := by decide +kernel
theorem dX4_know_31 : decode cX4_know 31 = .ok (.iload_n 1, 1) := by decide +kernel
theorem dX4_know_32 : decode cX4_know 32 = .ok (.invokevirtual 70, 3) := by decide +kernel
theorem dX4_know_35 : decode cX4_know 35 = .ok (.ifCond .ne 6, 3) := by decide +kernel
theorem dX4_know_38 : decode cX4_know 38 = .ok (.goto 23, 3) := by decide +kernel
theorem dX4_know_41 : decode cX4_know 41 = .ok (.aload_n 0, 1) := by decide +kernel
theorem dX4_know_42 : decode cX4_know 42 = .ok (.getfield 17, 3) := by decide +kernel
theorem dX4_know_45 : decode cX4_know 45 = .ok (.aload_n 0, 1) := by decide +kernel
theorem dX4_know_46 : decode cX4_know 46 = .ok (.getfield 67, 3) := by decide +kernel
theorem dX4_know_49 : decode cX4_know 49 = .ok (.iload_n 1, 1) := by decide +kernel
theorem dX4_know_50 : decode cX4_know 50 = .ok (.iastore, 1) := by decide +kernel
theorem dX4_know_51 : decode cX4_know 51 = .ok (.aload_n 0, 1) := by decide +kernel
theorem dX4_know_52 : decode cX4_know 52 = .ok (.dup, 1) := by decide +kernel
theorem dX4_know_53 : decode cX4_know 53 = .ok (.getfield 67, 3) := by decide +kernel
theorem dX4_know_56 : decode cX4_know 56 = .ok (.iconst 1, 1) := by decide +kernel
theorem dX4_know_57 : decode cX4_know 57 = .ok (.iadd, 1) := by decide +kernel
theorem dX4_know_58 : decode cX4_know 58 = .ok (.putfield 67, 3) := by decide +kernel
theorem dX4_know_61 : decode cX4_know 61 = .ok (.iinc 1 1, 3) := by decide +kernel
theorem dX4_know_64 : decode cX4_know 64 = .ok (.goto (-44), 3) := by decide +kernel
theorem dX4_know_67 : decode cX4_know 67 = .ok (.return_, 1) := by decide +kernel
set_option maxRecDepth 20000 in
theorem ggX4_crossing_X4_isSet : GoodIn wsX4_crossing wsX4_isSet := goodIn_r _ [6, 7, 27, 28, 29, 30, 31, 32, 33, 34, 35, 36, 37, 38] (by decide +kernel) (by decide +kernel)
set_option maxRecDepth 20000 in
theorem gX4_crossing_X4_isSet : GoodIn wsX4_crossing (wsV RX4 73 RX4 yX4_isSet wsX4_isSet) := goodIn_app (goodIn_of _ (by decide +kernel)) ggX4_crossing_X4_isSet
set_option maxRecDepth 20000 in
theorem ggX4_crossing_X4_fail : GoodIn wsX4_crossing wsX4_fail := goodIn_r _ [11, 1, 27, 28, 29, 30, 31, 32, 33, 34, 35, 36, 37, 38] (by decide +kernel) (by decide +kernel)
set_option maxRecDepth 20000 in
theorem gX4_crossing_X4_fail : GoodIn wsX4_crossing (wsV RX4 36 RX4 yX4_fail wsX4_fail) := goodIn_app (goodIn_of _ (by decide +kernel)) ggX4_crossing_X4_fail
set_option maxRecDepth 20000 in
theorem ggX4_crossing_X4_isLabel : GoodIn wsX4_crossing wsX4_isLabel := goodIn_r _ [14] (by decide +kernel) (by decide +kernel)
set_option maxRecDepth 20000 in
theorem gX4_crossing_X4_isLabel : GoodIn wsX4_crossing (va_wsS RX4 47 yX4_isLabel wsX4_isLabel) := goodIn_app (goodIn_of _ (by decide +kernel)) ggX4_crossing_X4_isLabel
set_option maxRecDepth 20000 in
theorem ggX4_crossing_X4_way : GoodIn wsX4_crossing wsX4_way := goodIn_r _ [18, 7, 19, 20, 21, 5, 22, 23, 24, 25, 26, 27, 28, 29, 30, 31, 32, 33, 34, 35, 36, 37, 38] (by decide +kernel) (by decide +kernel)
set_option maxRecDepth 20000 in
theorem gX4_crossing_X4_way : GoodIn wsX4_crossing (wsV RX4 61 RX4 yX4_way wsX4_way) := goodIn_app (goodIn_of _ (by decide +kernel)) ggX4_crossing_X4_way
theorem dX4_crossing_0 : decode cX4_crossing 0 = .ok (.aload_n 0, 1) := by decide +kernel
theorem dX4_crossing_1 : decode cX4_crossing 1 = .ok (.iconst 0, 1) := by decide +kernel
theorem dX4_crossing_2 : decode cX4_crossing 2 = .ok (.putfield 26, 3) := by decide +kernel
theorem dX4_crossing_5 : decode cX4_crossing 5 = .ok (.aload_n 0, 1) := by decide +kernel
theorem dX4_crossing_6 : decode cX4_crossing 6 = .ok (.iload_n 1, 1) := by decide +kernel
theorem dX4_crossing_7 : decode cX4_crossing 7 = .ok (.invokevirtual 73, 3) := by decide +kernel
theorem dX4_crossing_10 : decode cX4_crossing 10 = .ok (.ifCond .ne 9, 3) := by decide +kernel
theorem dX4_crossing_13 : decode cX4_crossing 13 = .ok (.aload_n 0, 1) := by decide +kernel
theorem dX4_crossing_14 : decode cX4_crossing 14 = .ok (.iconst 1, 1) := by decide +kernel
theorem dX4_crossing_15 : decode cX4_crossing 15 = .ok (.invokevirtual 36, 3) := by decide +kernel
theorem dX4_crossing_18 : decode cX4_crossing 18 = .ok (.ireturn, 1) := by decide +kernel
theorem dX4_crossing_19 : decode cX4_crossing 19 = .ok (.iload_n 2, 1) := by decide +kernel
theorem dX4_crossing_20 : decode cX4_crossing 20 = .ok (.invokestatic 47, 3) := by decide +kernel
theorem dX4_crossing_23 : decode cX4_crossing 23 = .ok (.ifCond .eq 12, 3) := by decide +kernel
theorem dX4_crossing_26 : decode cX4_crossing 26 = .ok (.aload_n 0, 1) := by decide +kernel
theorem dX4_crossing_27 : decode cX4_crossing 27 = .ok (.iload_n 1, 1) := by decide +kernel
theorem dX4_crossing_28 : decode cX4_crossing 28 = .ok (.iload_n 2, 1) := by decide +kernel
theorem dX4_crossing_29 : decode cX4_crossing 29 = .ok (.invokevirtual 61, 3) := by decide +kernel
theorem dX4_crossing_32 : decode cX4_crossing 32 = .ok (.goto 8, 3) := by decide +kernel
theorem dX4_crossing_35 : decode cX4_crossing 35 = .ok (.aload_n 0, 1) := by decide +kernel
theorem dX4_crossing_36 : decode cX4_crossing 36 = .ok (.iconst 2, 1) := by decide +kernel
theorem dX4_crossing_37 : decode cX4_crossing 37 = .ok (.invokevirtual 36, 3) := by decide +kernel
theorem dX4_crossing_40 : decode cX4_crossing 40 = .ok (.ireturn, 1) := by decide +kernel
set_option maxRecDepth 20000 in
theorem ggX4_isRegion_X4_isSet : GoodIn wsX4_isRegion wsX4_isSet := goodIn_r _ [6, 7, 28, 29, 30, 31, 32, 33, 34, 35, 36, 37, 38, 39] (by decide +kernel) (by decide +kernel)
set_option maxRecDepth 20000 in
theorem gX4_isRegion_X4_isSet : GoodIn wsX4_isRegion (wsV RX4 73 RX4 yX4_isSet wsX4_isSet) := goodIn_app (goodIn_of _ (by decide +kernel)) ggX4_isRegion_X4_isSet
set_option maxRecDepth 20000 in
theorem ggX4_isRegion_X4_isProper : GoodIn wsX4_isRegion wsX4_isProper := goodIn_r _ [11, 7, 12, 13, 14, 5, 15, 16, 17, 18, 19, 20, 21, 22, 23, 24, 25, 26, 27, 28, 29, 30, 31, 32, 33, 34, 35, 36, 37, 38, 39] (by decide +kernel) (by decide +kernel)
set_option maxRecDepth 20000 in
theorem gX4_isRegion_X4_isProper : GoodIn wsX4_isRegion (wsV RX4 70 RX4 yX4_isProper wsX4_isProper) := goodIn_app (goodIn_of _ (by decide +kernel)) ggX4_isRegion_X4_isProper
theorem dX4_isRegion_0 : decode cX4_isRegion 0 = .ok (.aload_n 0, 1) := by decide +kernel
theorem dX4_isRegion_1 : decode cX4_isRegion 1 = .ok (.aload_n 0, 1) := by decide +kernel
theorem dX4_isRegion_2 : decode cX4_isRegion 2 = .ok (.iload_n 1, 1) := by decide +kernel
theorem dX4_isRegion_3 : decode cX4_isRegion 3 = .ok (.invokevirtual 73, 3) := by decide +kernel
theorem dX4_isRegion_6 : decode cX4_isRegion 6 = .ok (.ifCond .eq 7, 3) := by decide +kernel
theorem dX4_isRegion_9 : decode cX4_isRegion 9 = .ok (.iconst 0, 1) := by decide +kernel
theorem dX4_isRegion_10 : decode cX4_isRegion 10 = .ok (.goto 4, 3) := by decide +kernel
theorem dX4_isRegion_13 : decode cX4_isRegion 13 = .ok (.iconst 1, 1) := by decide +kernel
theorem dX4_isRegion_14 : decode cX4_isRegion 14 = .ok (.putfield 26, 3) := by decide +kernel
theorem dX4_isRegion_17 : decode cX4_isRegion 17 = .ok (.aload_n 0, 1) := by decide +kernel
theorem dX4_isRegion_18 : decode cX4_isRegion 18 = .ok (.getfield 26, 3) := by decide +kernel
theorem dX4_isRegion_21 : decode cX4_isRegion 21 = .ok (.ifCond .ne 15, 3) := by decide +kernel
theorem dX4_isRegion_24 : decode cX4_isRegion 24 = .ok (.aload_n 0, 1) := by decide +kernel
theorem dX4_isRegion_25 : decode cX4_isRegion 25 = .ok (.iload_n 1, 1) := by decide +kernel
theorem dX4_isRegion_26 : decode cX4_isRegion 26 = .ok (.invokevirtual 70, 3) := by decide +kernel
theorem dX4_isRegion_29 : decode cX4_isRegion 29 = .ok (.ifCond .eq 7, 3) := by decide +kernel
theorem dX4_isRegion_32 : decode cX4_isRegion 32 = .ok (.iconst 1, 1) := by decide +kernel
theorem dX4_isRegion_33 : decode cX4_isRegion 33 = .ok (.goto 4, 3) := by decide +kernel
theorem dX4_isRegion_36 : decode cX4_isRegion 36 = .ok (.iconst 0, 1) := by decide +kernel
theorem dX4_isRegion_37 : decode cX4_isRegion 37 = .ok (.ireturn, 1) := by decide +kernel
set_option maxRecDepth 20000 in
theorem ggX4_regionCount_X4_know : GoodIn wsX4_regionCount wsX4_know := goodIn_r _ [7, 8, 2, 9, 10, 11, 12, 13, 6, 14, 15, 16, 17, 18, 19, 20, 21, 22, 23, 24, 25, 26, 27, 28, 29, 30, 31, 32, 33, 34, 35, 36, 37, 38, 39, 40, 41, 42] (by decide +kernel) (by decide +kernel)
set_option maxRecDepth 20000 in
theorem gX4_regionCount_X4_know : GoodIn wsX4_regionCount (wsV RX4 76 RX4 yX4_know wsX4_know) := goodIn_app (goodIn_of _ (by decide +kernel)) ggX4_regionCount_X4_know
theorem dX4_regionCount_0 : decode cX4_regionCount 0 = .ok (.aload_n 0, 1) := by decide +kernel
theorem dX4_regionCount_1 : decode cX4_regionCount 1 = .ok (.iconst 0, 1) := by decide +kernel
theorem dX4_regionCount_2 : decode cX4_regionCount 2 = .ok (.putfield 26, 3) := by decide +kernel
theorem dX4_regionCount_5 : decode cX4_regionCount 5 = .ok (.aload_n 0, 1) := by decide +kernel
theorem dX4_regionCount_6 : decode cX4_regionCount 6 = .ok (.invokevirtual 76, 3) := by decide +kernel
theorem dX4_regionCount_9 : decode cX4_regionCount 9 = .ok (.aload_n 0, 1) := by decide +kernel
theorem dX4_regionCount_10 : decode cX4_regionCount 10 = .ok (.getfield 67, 3) := by decide +kernel
theorem dX4_regionCount_13 : decode cX4_regionCount 13 = .ok (.ireturn, 1) := by decide +kernel
set_option maxRecDepth 20000 in
theorem ggX4_region_X4_know : GoodIn wsX4_region wsX4_know := goodIn_r _ [8, 9, 2, 10, 3, 11, 12, 13, 7, 14, 15, 16, 17, 18, 19, 20, 21, 22, 23, 24, 25, 26, 27, 28, 29, 30, 35, 36, 37, 38, 39, 40, 41, 42, 43, 44, 45, 46] (by decide +kernel) (by decide +kernel)
set_option maxRecDepth 20000 in
theorem gX4_region_X4_know : GoodIn wsX4_region (wsV RX4 76 RX4 yX4_know wsX4_know) := goodIn_app (goodIn_of _ (by decide +kernel)) ggX4_region_X4_know
set_option maxRecDepth 20000 in
theorem ggX4_region_X4_fail : GoodIn wsX4_region wsX4_fail := goodIn_r _ [34, 1, 35, 36, 37, 38, 39, 40, 41, 42, 43, 44, 45, 46] (by decide +kernel) (by decide +kernel)
set_option maxRecDepth 20000 in
theorem gX4_region_X4_fail : GoodIn wsX4_region (wsV RX4 36 RX4 yX4_fail wsX4_fail) := goodIn_app (goodIn_of _ (by decide +kernel)) ggX4_region_X4_fail
theorem dX4_region_0 : decode cX4_region 0 = .ok (.aload_n 0, 1) := by decide +kernel
theorem dX4_region_1 : decode cX4_region 1 = .ok (.iconst 0, 1) := by decide +kernel
theorem dX4_region_2 : decode cX4_region 2 = .ok (.putfield 26, 3) := by decide +kernel
theorem dX4_region_5 : decode cX4_region 5 = .ok (.aload_n 0, 1) := by decide +kernel
theorem dX4_region_6 : decode cX4_region 6 = .ok (.invokevirtual 76, 3) := by decide +kernel
theorem dX4_region_9 : decode cX4_region 9 = .ok (.iload_n 1, 1) := by decide +kernel
theorem dX4_region_10 : decode cX4_region 10 = .ok (.ifCond .lt 20, 3) := by decide +kernel
theorem dX4_region_13 : decode cX4_region 13 = .ok (.iload_n 1, 1) := by decide +kernel
theorem dX4_region_14 : decode cX4_region 14 = .ok (.aload_n 0, 1) := by decide +kernel
theorem dX4_region_15 : decode cX4_region 15 = .ok (.getfield 67, 3) := by decide +kernel
theorem dX4_region_18 : decode cX4_region 18 = .ok (.if_icmp .ge 12, 3) := by decide +kernel
theorem dX4_region_21 : decode cX4_region 21 = .ok (.aload_n 0, 1) := by decide +kernel
theorem dX4_region_22 : decode cX4_region 22 = .ok (.getfield 17, 3) := by decide +kernel
theorem dX4_region_25 : decode cX4_region 25 = .ok (.iload_n 1, 1) := by decide +kernel
theorem dX4_region_26 : decode cX4_region 26 = .ok (.iaload, 1) := by decide +kernel
theorem dX4_region_27 : decode cX4_region 27 = .ok (.goto 8, 3) := by decide +kernel
theorem dX4_region_30 : decode cX4_region 30 = .ok (.aload_n 0, 1) := by decide +kernel
theorem dX4_region_31 : decode cX4_region 31 = .ok (.iconst 1, 1) := by decide +kernel
theorem dX4_region_32 : decode cX4_region 32 = .ok (.invokevirtual 36, 3) := by decide +kernel
theorem dX4_region_35 : decode cX4_region 35 = .ok (.ireturn, 1) := by decide +kernel
theorem dX4_isSmallest_0 : decode cX4_isSmallest 0 = .ok (.iconst 1, 1) := by decide +kernel
theorem dX4_isSmallest_1 : decode cX4_isSmallest 1 = .ok (.istore_n 2, 1) := by decide +kernel
theorem dX4_isSmallest_2 : decode cX4_isSmallest 2 = .ok (.iconst 0, 1) := by decide +kernel
theorem dX4_isSmallest_3 : decode cX4_isSmallest 3 = .ok (.istore_n 3, 1) := by decide +kernel
theorem dX4_isSmallest_4 : decode cX4_isSmallest 4 = .ok (.iload_n 3, 1) := by decide +kernel
theorem dX4_isSmallest_5 : decode cX4_isSmallest 5 = .ok (.iload_n 1, 1) := by decide +kernel
theorem dX4_isSmallest_6 : decode cX4_isSmallest 6 = .ok (.if_icmp .ge 37, 3) := by decide +kernel
theorem dX4_isSmallest_9 : decode cX4_isSmallest 9 = .ok (.iload_n 2, 1) := by decide +kernel
theorem dX4_isSmallest_10 : decode cX4_isSmallest 10 = .ok (.ifCond .eq 33, 3) := by decide +kernel
theorem dX4_isSmallest_13 : decode cX4_isSmallest 13 = .ok (.aload_n 0, 1) := by decide +kernel
theorem dX4_isSmallest_14 : decode cX4_isSmallest 14 = .ok (.getfield 17, 3) := by decide +kernel
theorem dX4_isSmallest_17 : decode cX4_isSmallest 17 = .ok (.iload_n 3, 1) := by decide +kernel
theorem dX4_isSmallest_18 : decode cX4_isSmallest 18 = .ok (.iaload, 1) := by decide +kernel
theorem dX4_isSmallest_19 : decode cX4_isSmallest 19 = .ok (.aload_n 0, 1) := by decide +kernel
theorem dX4_isSmallest_20 : decode cX4_isSmallest 20 = .ok (.getfield 17, 3) := by decide +kernel
theorem dX4_isSmallest_23 : decode cX4_isSmallest 23 = .ok (.iload_n 1, 1) := by decide +kernel
theorem dX4_isSmallest_24 : decode cX4_isSmallest 24 = .ok (.iaload, 1) := by decide +kernel
theorem dX4_isSmallest_25 : decode cX4_isSmallest 25 = .ok (.iconst (-1), 1) := by decide +kernel
theorem dX4_isSmallest_26 : decode cX4_isSmallest 26 = .ok (.ixor, 1) := by decide +kernel
theorem dX4_isSmallest_27 : decode cX4_isSmallest 27 = .ok (.iand, 1) := by decide +kernel
theorem dX4_isSmallest_28 : decode cX4_isSmallest 28 = .ok (.ifCond .eq 7, 3) := by decide +kernel
theorem dX4_isSmallest_31 : decode cX4_isSmallest 31 = .ok (.iconst 1, 1) := by decide +kernel
theorem dX4_isSmallest_32 : decode cX4_isSmallest 32 = .ok (.goto 4, 3) := by decide +kernel
theorem dX4_isSmallest_35 : decode cX4_isSmallest 35 = .ok (.iconst 0, 1) := by decide +kernel
theorem dX4_isSmallest_36 : decode cX4_isSmallest 36 = .ok (.istore_n 2, 1) := by decide +kernel
theorem dX4_isSmallest_37 : decode cX4_isSmallest 37 = .ok (.iinc 3 1, 3) := by decide +kernel
theorem dX4_isSmallest_40 : decode cX4_isSmallest 40 = .ok (.goto (-36), 3) := by decide +kernel
theorem dX4_isSmallest_43 : decode cX4_isSmallest 43 = .ok (.iload_n 2, 1) := by decide +kernel
theorem dX4_isSmallest_44 : decode cX4_isSmallest 44 = .ok (.ireturn, 1) := by decide +kernel
set_option maxRecDepth 20000 in
theorem ggX4_isLeast_X4_know : GoodIn wsX4_isLeast wsX4_know := goodIn_r _ [7, 8, 1, 9, 10, 11, 12, 13, 6, 14, 15, 16, 17, 18, 19, 20, 21, 22, 23, 24, 25, 26, 27, 28, 29, 30, 35, 36, 37, 38, 39, 40, 41, 42, 43, 44, 45, 46] (by decide +kernel) (by decide +kernel)
set_option maxRecDepth 20000 in
theorem gX4_isLeast_X4_know : GoodIn wsX4_isLeast (wsV RX4 76 RX4 yX4_know wsX4_know) := goodIn_app (goodIn_of _ (by decide +kernel)) ggX4_isLeast_X4_know
set_option maxRecDepth 20000 in
theorem ggX4_isLeast_X4_isSmallest : GoodIn wsX4_isLeast wsX4_isSmallest := goodIn_r _ [34, 10, 35, 36, 37, 38, 39, 40, 41, 42, 43, 44, 45, 46] (by decide +kernel) (by decide +kernel)
set_option maxRecDepth 20000 in
theorem gX4_isLeast_X4_isSmallest : GoodIn wsX4_isLeast (wsV RX4 79 RX4 yX4_isSmallest wsX4_isSmallest) := goodIn_app (goodIn_of _ (by decide +kernel)) ggX4_isLeast_X4_isSmallest
theorem dX4_isLeast_0 : decode cX4_isLeast 0 = .ok (.aload_n 0, 1) := by decide +kernel
theorem dX4_isLeast_1 : decode cX4_isLeast 1 = .ok (.invokevirtual 76, 3) := by decide +kernel
theorem dX4_isLeast_4 : decode cX4_isLeast 4 = .ok (.aload_n 0, 1) := by decide +kernel
theorem dX4_isLeast_5 : decode cX4_isLeast 5 = .ok (.iload_n 1, 1) := by decide +kernel
theorem dX4_isLeast_6 : decode cX4_isLeast 6 = .ok (.ifCond .lt 15, 3) := by decide +kernel
theorem dX4_isLeast_9 : decode cX4_isLeast 9 = .ok (.iload_n 1, 1) := by decide +kernel
theorem dX4_isLeast_10 : decode cX4_isLeast 10 = .ok (.aload_n 0, 1) := by decide +kernel
theorem dX4_isLeast_11 : decode cX4_isLeast 11 = .ok (.getfield 67, 3) := by decide +kernel
theorem dX4_isLeast_14 : decode cX4_isLeast 14 = .ok (.if_icmp .ge 7, 3) := by decide +kernel
theorem dX4_isLeast_17 : decode cX4_isLeast 17 = .ok (.iconst 0, 1) := by decide +kernel
theorem dX4_isLeast_18 : decode cX4_isLeast 18 = .ok (.goto 4, 3) := by decide +kernel
theorem dX4_isLeast_21 : decode cX4_isLeast 21 = .ok (.iconst 1, 1) := by decide +kernel
theorem dX4_isLeast_22 : decode cX4_isLeast 22 = .ok (.putfield 26, 3) := by decide +kernel
theorem dX4_isLeast_25 : decode cX4_isLeast 25 = .ok (.aload_n 0, 1) := by decide +kernel
theorem dX4_isLeast_26 : decode cX4_isLeast 26 = .ok (.getfield 26, 3) := by decide +kernel
theorem dX4_isLeast_29 : decode cX4_isLeast 29 = .ok (.ifCond .ne 15, 3) := by decide +kernel
theorem dX4_isLeast_32 : decode cX4_isLeast 32 = .ok (.aload_n 0, 1) := by decide +kernel
theorem dX4_isLeast_33 : decode cX4_isLeast 33 = .ok (.iload_n 1, 1) := by decide +kernel
theorem dX4_isLeast_34 : decode cX4_isLeast 34 = .ok (.invokevirtual 79, 3) := by decide +kernel
theorem dX4_isLeast_37 : decode cX4_isLeast 37 = .ok (.ifCond .eq 7, 3) := by decide +kernel
theorem dX4_isLeast_40 : decode cX4_isLeast 40 = .ok (.iconst 1, 1) := by decide +kernel
theorem dX4_isLeast_41 : decode cX4_isLeast 41 = .ok (.goto 4, 3) := by decide +kernel
theorem dX4_isLeast_44 : decode cX4_isLeast 44 = .ok (.iconst 0, 1) := by decide +kernel
theorem dX4_isLeast_45 : decode cX4_isLeast 45 = .ok (.ireturn, 1) := by decide +kernel
set_option maxRecDepth 20000 in
theorem ggX4_ends_X4_to : GoodIn wsX4_ends wsX4_to := goodIn_r _ [6, 7, 8, 9, 10, 11, 12, 13, 14, 15, 16, 17, 18, 19] (by decide +kernel) (by decide +kernel)
set_option maxRecDepth 20000 in
theorem gX4_ends_X4_to : GoodIn wsX4_ends (wsV RX4 50 RX4 yX4_to wsX4_to) := goodIn_app (goodIn_of _ (by decide +kernel)) ggX4_ends_X4_to
theorem dX4_ends_0 : decode cX4_ends 0 = .ok (.iconst 0, 1) := by decide +kernel
theorem dX4_ends_1 : decode cX4_ends 1 = .ok (.istore_n 3, 1) := by decide +kernel
theorem dX4_ends_2 : decode cX4_ends 2 = .ok (.iconst 0, 1) := by decide +kernel
theorem dX4_ends_3 : decode cX4_ends 3 = .ok (.istore 4, 2) := by decide +kernel
theorem dX4_ends_5 : decode cX4_ends 5 = .ok (.iload 4, 2) := by decide +kernel
theorem dX4_ends_7 : decode cX4_ends 7 = .ok (.aload_n 0, 1) := by decide +kernel
theorem dX4_ends_8 : decode cX4_ends 8 = .ok (.getfield 9, 3) := by decide +kernel
theorem dX4_ends_11 : decode cX4_ends 11 = .ok (.if_icmp .ge 41, 3) := by decide +kernel
theorem dX4_ends_14 : decode cX4_ends 14 = .ok (.aload_n 0, 1) := by decide +kernel
theorem dX4_ends_15 : decode cX4_ends 15 = .ok (.iload 4, 2) := by decide +kernel
theorem dX4_ends_17 : decode cX4_ends 17 = .ok (.iload_n 1, 1) := by decide +kernel
theorem dX4_ends_18 : decode cX4_ends 18 = .ok (.invokevirtual 50, 3) := by decide +kernel
theorem dX4_ends_21 : decode cX4_ends 21 = .ok (.iconst (-1), 1) := by decide +kernel
theorem dX4_ends_22 : decode cX4_ends 22 = .ok (.if_icmp .eq 24, 3) := by decide +kernel
theorem dX4_ends_25 : decode cX4_ends 25 = .ok (.iload_n 3, 1) := by decide +kernel
theorem dX4_ends_26 : decode cX4_ends 26 = .ok (.iconst 1, 1) := by decide +kernel
theorem dX4_ends_27 : decode cX4_ends 27 = .ok (.iload_n 2, 1) := by decide +kernel
theorem dX4_ends_28 : decode cX4_ends 28 = .ok (.ifCond .eq 8, 3) := by decide +kernel
theorem dX4_ends_31 : decode cX4_ends 31 = .ok (.iload 4, 2) := by decide +kernel
theorem dX4_ends_33 : decode cX4_ends 33 = .ok (.goto 10, 3) := by decide +kernel
theorem dX4_ends_36 : decode cX4_ends 36 = .ok (.aload_n 0, 1) := by decide +kernel
theorem dX4_ends_37 : decode cX4_ends 37 = .ok (.iload 4, 2) := by decide +kernel
theorem dX4_ends_39 : decode cX4_ends 39 = .ok (.iload_n 1, 1) := by decide +kernel
theorem dX4_ends_40 : decode cX4_ends 40 = .ok (.invokevirtual 50, 3) := by decide +kernel
theorem dX4_ends_43 : decode cX4_ends 43 = .ok (.ishl, 1) := by decide +kernel
theorem dX4_ends_44 : decode cX4_ends 44 = .ok (.ior, 1) := by decide +kernel
theorem dX4_ends_45 : decode cX4_ends 45 = .ok (.istore_n 3, 1) := by decide +kernel
theorem dX4_ends_46 : decode cX4_ends 46 = .ok (.iinc 4 1, 3) := by decide +kernel
theorem dX4_ends_49 : decode cX4_ends 49 = .ok (.goto (-44), 3) := by decide +kernel
theorem dX4_ends_52 : decode cX4_ends 52 = .ok (.iload_n 3, 1) := by decide +kernel
theorem dX4_ends_53 : decode cX4_ends 53 = .ok (.ireturn, 1) := by decide +kernel
set_option maxRecDepth 20000 in
theorem ggX4_grow_X4_isSet : GoodIn wsX4_grow wsX4_isSet := goodIn_r _ [6, 7, 32, 33, 34, 35, 36, 37, 38, 39, 40, 41, 42, 43] (by decide +kernel) (by decide +kernel)
set_option maxRecDepth 20000 in
theorem gX4_grow_X4_isSet : GoodIn wsX4_grow (wsV RX4 73 RX4 yX4_isSet wsX4_isSet) := goodIn_app (goodIn_of _ (by decide +kernel)) ggX4_grow_X4_isSet
set_option maxRecDepth 20000 in
theorem ggX4_grow_X4_fail : GoodIn wsX4_grow wsX4_fail := goodIn_r _ [11, 1, 32, 33, 34, 35, 36, 37, 38, 39, 40, 41, 42, 43] (by decide +kernel) (by decide +kernel)
set_option maxRecDepth 20000 in
theorem gX4_grow_X4_fail : GoodIn wsX4_grow (wsV RX4 36 RX4 yX4_fail wsX4_fail) := goodIn_app (goodIn_of _ (by decide +kernel)) ggX4_grow_X4_fail
set_option maxRecDepth 20000 in
theorem ggX4_grow_X4_mixed : GoodIn wsX4_grow wsX4_mixed := goodIn_r _ [15, 16, 17, 18, 5, 19, 7, 20, 21, 22, 23, 24, 25, 26, 27, 32, 33, 34, 35, 36, 37, 38, 39, 40, 41, 42, 43] (by decide +kernel) (by decide +kernel)
set_option maxRecDepth 20000 in
theorem gX4_grow_X4_mixed : GoodIn wsX4_grow (wsV RX4 64 RX4 yX4_mixed wsX4_mixed) := goodIn_app (goodIn_of _ (by decide +kernel)) ggX4_grow_X4_mixed
set_option maxRecDepth 20000 in
theorem ggX4_grow_X4_ends : GoodIn wsX4_grow wsX4_ends := goodIn_r _ [31, 7, 20, 21, 22, 5, 23, 24, 32, 33, 34, 35, 36, 37, 38, 39, 40, 41, 42, 43] (by decide +kernel) (by decide +kernel)
set_option maxRecDepth 20000 in
theorem gX4_grow_X4_ends : GoodIn wsX4_grow (wsV RX4 82 RX4 yX4_ends wsX4_ends) := goodIn_app (goodIn_of _ (by decide +kernel)) ggX4_grow_X4_ends
theorem dX4_grow_0 : decode cX4_grow 0 = .ok (.aload_n 0, 1) := by decide +kernel
theorem dX4_grow_1 : decode cX4_grow 1 = .ok (.iconst 0, 1) := by decide +kernel
theorem dX4_grow_2 : decode cX4_grow 2 = .ok (.putfield 26, 3) := by decide +kernel
theorem dX4_grow_5 : decode cX4_grow 5 = .ok (.aload_n 0, 1) := by decide +kernel
theorem dX4_grow_6 : decode cX4_grow 6 = .ok (.iload_n 1, 1) := by decide +kernel
theorem dX4_grow_7 : decode cX4_grow 7 = .ok (.invokevirtual 73, 3) := by decide +kernel
theorem dX4_grow_10 : decode cX4_grow 10 = .ok (.ifCond .ne 9, 3) := by decide +kernel
theorem dX4_grow_13 : decode cX4_grow 13 = .ok (.aload_n 0, 1) := by decide +kernel
theorem dX4_grow_14 : decode cX4_grow 14 = .ok (.iconst 1, 1) := by decide +kernel
theorem dX4_grow_15 : decode cX4_grow 15 = .ok (.invokevirtual 36, 3) := by decide +kernel
theorem dX4_grow_18 : decode cX4_grow 18 = .ok (.ireturn, 1) := by decide +kernel
theorem dX4_grow_19 : decode cX4_grow 19 = .ok (.iload_n 1, 1) := by decide +kernel
theorem dX4_grow_20 : decode cX4_grow 20 = .ok (.istore_n 2, 1) := by decide +kernel
theorem dX4_grow_21 : decode cX4_grow 21 = .ok (.aload_n 0, 1) := by decide +kernel
theorem dX4_grow_22 : decode cX4_grow 22 = .ok (.iload_n 2, 1) := by decide +kernel
theorem dX4_grow_23 : decode cX4_grow 23 = .ok (.invokevirtual 64, 3) := by decide +kernel
theorem dX4_grow_26 : decode cX4_grow 26 = .ok (.istore_n 3, 1) := by decide +kernel
theorem dX4_grow_27 : decode cX4_grow 27 = .ok (.iload_n 3, 1) := by decide +kernel
theorem dX4_grow_28 : decode cX4_grow 28 = .ok (.iconst (-1), 1) := by decide +kernel
theorem dX4_grow_29 : decode cX4_grow 29 = .ok (.if_icmp .eq 73, 3) := by decide +kernel
theorem dX4_grow_32 : decode cX4_grow 32 = .ok (.aload_n 0, 1) := by decide +kernel
theorem dX4_grow_33 : decode cX4_grow 33 = .ok (.iload_n 3, 1) := by decide +kernel
theorem dX4_grow_34 : decode cX4_grow 34 = .ok (.iconst 1, 1) := by decide +kernel
theorem dX4_grow_35 : decode cX4_grow 35 = .ok (.invokevirtual 82, 3) := by decide +kernel
theorem dX4_grow_38 : decode cX4_grow 38 = .ok (.istore 4, 2) := by decide +kernel
theorem dX4_grow_40 : decode cX4_grow 40 = .ok (.aload_n 0, 1) := by decide +kernel
theorem dX4_grow_41 : decode cX4_grow 41 = .ok (.iload_n 3, 1) := by decide +kernel
theorem dX4_grow_42 : decode cX4_grow 42 = .ok (.iconst 0, 1) := by decide +kernel
theorem dX4_grow_43 : decode cX4_grow 43 = .ok (.invokevirtual 82, 3) := by decide +kernel
theorem dX4_grow_46 : decode cX4_grow 46 = .ok (.istore 5, 2) := by decide +kernel
theorem dX4_grow_48 : decode cX4_grow 48 = .ok (.iload 4, 2) := by decide +kernel
theorem dX4_grow_50 : decode cX4_grow 50 = .ok (.iload_n 2, 1) := by decide +kernel
theorem dX4_grow_51 : decode cX4_grow 51 = .ok (.iand, 1) := by decide +kernel
theorem dX4_grow_52 : decode cX4_grow 52 = .ok (.ifCond .eq 10, 3) := by decide +kernel
theorem dX4_grow_55 : decode cX4_grow 55 = .ok (.iload 5, 2) := by decide +kernel
theorem dX4_grow_57 : decode cX4_grow 57 = .ok (.iload_n 2, 1) := by decide +kernel
theorem dX4_grow_58 : decode cX4_grow 58 = .ok (.iand, 1) := by decide +kernel
theorem dX4_grow_59 : decode cX4_grow 59 = .ok (.ifCond .eq 12, 3) := by decide +kernel
theorem dX4_grow_62 : decode cX4_grow 62 = .ok (.iload 5, 2) := by decide +kernel
theorem dX4_grow_64 : decode cX4_grow 64 = .ok (.iload_n 2, 1) := by decide +kernel
theorem dX4_grow_65 : decode cX4_grow 65 = .ok (.iconst (-1), 1) := by decide +kernel
theorem dX4_grow_66 : decode cX4_grow 66 = .ok (.ixor, 1) := by decide +kernel
theorem dX4_grow_67 : decode cX4_grow 67 = .ok (.iand, 1) := by decide +kernel
theorem dX4_grow_68 : decode cX4_grow 68 = .ok (.ifCond .ne 7, 3) := by decide +kernel
theorem dX4_grow_71 : decode cX4_grow 71 = .ok (.iconst 1, 1) := by decide +kernel
theorem dX4_grow_72 : decode cX4_grow 72 = .ok (.goto 4, 3) := by decide +kernel
theorem dX4_grow_75 : decode cX4_grow 75 = .ok (.iconst 0, 1) := by decide +kernel
theorem dX4_grow_76 : decode cX4_grow 76 = .ok (.istore 6, 2) := by decide +kernel
theorem dX4_grow_78 : decode cX4_grow 78 = .ok (.iload_n 2, 1) := by decide +kernel
theorem dX4_grow_79 : decode cX4_grow 79 = .ok (.iload 6, 2) := by decide +kernel
theorem dX4_grow_81 : decode cX4_grow 81 = .ok (.ifCond .eq 8, 3) := by decide +kernel
theorem dX4_grow_84 : decode cX4_grow 84 = .ok (.iload 4, 2) := by decide +kernel
theorem dX4_grow_86 : decode cX4_grow 86 = .ok (.goto 5, 3) := by decide +kernel
theorem dX4_grow_89 : decode cX4_grow 89 = .ok (.iload 5, 2) := by decide +kernel
theorem dX4_grow_91 : decode cX4_grow 91 = .ok (.ior, 1) := by decide +kernel
theorem dX4_grow_92 : decode cX4_grow 92 = .ok (.istore_n 2, 1) := by decide +kernel
theorem dX4_grow_93 : decode cX4_grow 93 = .ok (.aload_n 0, 1) := by decide +kernel
theorem dX4_grow_94 : decode cX4_grow 94 = .ok (.iload_n 2, 1) := by decide +kernel
theorem dX4_grow_95 : decode cX4_grow 95 = .ok (.invokevirtual 64, 3) := by decide +kernel
theorem dX4_grow_98 : decode cX4_grow 98 = .ok (.istore_n 3, 1) := by decide +kernel
theorem dX4_grow_99 : decode cX4_grow 99 = .ok (.goto (-72), 3) := by decide +kernel
theorem dX4_grow_102 : decode cX4_grow 102 = .ok (.iload_n 2, 1) := by decide +kernel
theorem dX4_grow_103 : decode cX4_grow 103 = .ok (.ireturn, 1) := by decide +kernel
set_option maxRecDepth 20000 in
theorem ggX4_firstApart_X4_know : GoodIn wsX4_firstApart wsX4_know := goodIn_r _ [7, 8, 1, 9, 2, 10, 11, 12, 6, 13, 14, 15, 16, 17, 18, 19, 20, 21, 22, 23, 24, 25, 26, 27, 28, 29, 30, 31, 32, 33, 34, 35, 36, 37, 38, 39, 40, 41] (by decide +kernel) (by decide +kernel)
set_option maxRecDepth 20000 in
theorem gX4_firstApart_X4_know : GoodIn wsX4_firstApart (wsV RX4 76 RX4 yX4_know wsX4_know) := goodIn_app (goodIn_of _ (by decide +kernel)) ggX4_firstApart_X4_know
set_option maxRecDepth 20000 in
theorem ggX4_firstApart_X4_has : GoodIn wsX4_firstApart wsX4_has := goodIn_r _ [29] (by decide +kernel) (by decide +kernel)
set_option maxRecDepth 20000 in
theorem gX4_firstApart_X4_has : GoodIn wsX4_firstApart (va_wsS RX4 54 yX4_has wsX4_has) := goodIn_app (goodIn_of _ (by decide +kernel)) ggX4_firstApart_X4_has
theorem dX4_firstApart_0 : decode cX4_firstApart 0 = .ok (.aload_n 0, 1) := by decide +kernel
theorem dX4_firstApart_1 : decode cX4_firstApart 1 = .ok (.invokevirtual 76, 3) := by decide +kernel
theorem dX4_firstApart_4 : decode cX4_firstApart 4 = .ok (.iconst 0, 1) := by decide +kernel
theorem dX4_firstApart_5 : decode cX4_firstApart 5 = .ok (.istore_n 3, 1) := by decide +kernel
theorem dX4_firstApart_6 : decode cX4_firstApart 6 = .ok (.iload_n 3, 1) := by decide +kernel
theorem dX4_firstApart_7 : decode cX4_firstApart 7 = .ok (.aload_n 0, 1) := by decide +kernel
theorem dX4_firstApart_8 : decode cX4_firstApart 8 = .ok (.getfield 67, 3) := by decide +kernel
theorem dX4_firstApart_11 : decode cX4_firstApart 11 = .ok (.if_icmp .ge 34, 3) := by decide +kernel
theorem dX4_firstApart_14 : decode cX4_firstApart 14 = .ok (.aload_n 0, 1) := by decide +kernel
theorem dX4_firstApart_15 : decode cX4_firstApart 15 = .ok (.getfield 17, 3) := by decide +kernel
theorem dX4_firstApart_18 : decode cX4_firstApart 18 = .ok (.iload_n 3, 1) := by decide +kernel
theorem dX4_firstApart_19 : decode cX4_firstApart 19 = .ok (.iaload, 1) := by decide +kernel
theorem dX4_firstApart_20 : decode cX4_firstApart 20 = .ok (.iload_n 1, 1) := by decide +kernel
theorem dX4_firstApart_21 : decode cX4_firstApart 21 = .ok (.invokestatic 54, 3) := by decide +kernel
theorem dX4_firstApart_24 : decode cX4_firstApart 24 = .ok (.aload_n 0, 1) := by decide +kernel
theorem dX4_firstApart_25 : decode cX4_firstApart 25 = .ok (.getfield 17, 3) := by decide +kernel
theorem dX4_firstApart_28 : decode cX4_firstApart 28 = .ok (.iload_n 3, 1) := by decide +kernel
theorem dX4_firstApart_29 : decode cX4_firstApart 29 = .ok (.iaload, 1) := by decide +kernel
theorem dX4_firstApart_30 : decode cX4_firstApart 30 = .ok (.iload_n 2, 1) := by decide +kernel
theorem dX4_firstApart_31 : decode cX4_firstApart 31 = .ok (.invokestatic 54, 3) := by decide +kernel
theorem dX4_firstApart_34 : decode cX4_firstApart 34 = .ok (.if_icmp .eq 5, 3) := by decide +kernel
theorem dX4_firstApart_37 : decode cX4_firstApart 37 = .ok (.iload_n 3, 1) := by decide +kernel
theorem dX4_firstApart_38 : decode cX4_firstApart 38 = .ok (.ireturn, 1) := by decide +kernel
theorem dX4_firstApart_39 : decode cX4_firstApart 39 = .ok (.iinc 3 1, 3) := by decide +kernel
theorem dX4_firstApart_42 : decode cX4_firstApart 42 = .ok (.goto (-36), 3) := by decide +kernel
theorem dX4_firstApart_45 : decode cX4_firstApart 45 = .ok (.iconst (-1), 1) := by decide +kernel
theorem dX4_firstApart_46 : decode cX4_firstApart 46 = .ok (.ireturn, 1) := by decide +kernel
set_option maxRecDepth 20000 in
theorem ggX4_apart_X4_isState : GoodIn wsX4_apart wsX4_isState := goodIn_r _ [6, 7, 43, 44, 45, 46, 47, 48, 49, 50, 51, 52, 53, 54] (by decide +kernel) (by decide +kernel)
set_option maxRecDepth 20000 in
theorem gX4_apart_X4_isState : GoodIn wsX4_apart (wsV RX4 43 RX4 yX4_isState wsX4_isState) := goodIn_app (goodIn_of _ (by decide +kernel)) ggX4_apart_X4_isState
set_option maxRecDepth 20000 in
theorem ggX4_apart_X4_firstApart : GoodIn wsX4_apart wsX4_firstApart := goodIn_r _ [11, 12, 13, 14, 15, 16, 5, 17, 18, 7, 19, 20, 21, 22, 23, 24, 25, 26, 27, 28, 29, 30, 31, 32, 33, 34, 35, 36, 37, 38, 43, 44, 45, 46, 47, 48, 49, 50, 51, 52, 53, 54] (by decide +kernel) (by decide +kernel)
set_option maxRecDepth 20000 in
theorem gX4_apart_X4_firstApart : GoodIn wsX4_apart (wsV RX4 86 RX4 yX4_firstApart wsX4_firstApart) := goodIn_app (goodIn_of _ (by decide +kernel)) ggX4_apart_X4_firstApart
set_option maxRecDepth 20000 in
theorem ggX4_apart_X4_fail : GoodIn wsX4_apart wsX4_fail := goodIn_r _ [42, 1, 43, 44, 45, 46, 47, 48, 49, 50, 51, 52, 53, 54] (by decide +kernel) (by decide +kernel)
set_option maxRecDepth 20000 in
theorem gX4_apart_X4_fail : GoodIn wsX4_apart (wsV RX4 36 RX4 yX4_fail wsX4_fail) := goodIn_app (goodIn_of _ (by decide +kernel)) ggX4_apart_X4_fail
theorem dX4_apart_0 : decode cX4_apart 0 = .ok (.aload_n 0, 1) := by decide +kernel
theorem dX4_apart_1 : decode cX4_apart 1 = .ok (.iconst 0, 1) := by decide +kernel
theorem dX4_apart_2 : decode cX4_apart 2 = .ok (.putfield 26, 3) := by decide +kernel
theorem dX4_apart_5 : decode cX4_apart 5 = .ok (.aload_n 0, 1) := by decide +kernel
theorem dX4_apart_6 : decode cX4_apart 6 = .ok (.iload_n 1, 1) := by decide +kernel
theorem dX4_apart_7 : decode cX4_apart 7 = .ok (.invokevirtual 43, 3) := by decide +kernel
theorem dX4_apart_10 : decode cX4_apart 10 = .ok (.ifCond .eq 20, 3) := by decide +kernel
theorem dX4_apart_13 : decode cX4_apart 13 = .ok (.aload_n 0, 1) := by decide +kernel
theorem dX4_apart_14 : decode cX4_apart 14 = .ok (.iload_n 2, 1) := by decide +kernel
theorem dX4_apart_15 : decode cX4_apart 15 = .ok (.invokevirtual 43, 3) := by decide +kernel
theorem dX4_apart_18 : decode cX4_apart 18 = .ok (.ifCond .eq 12, 3) := by decide +kernel
theorem dX4_apart_21 : decode cX4_apart 21 = .ok (.aload_n 0, 1) := by decide +kernel
theorem dX4_apart_22 : decode cX4_apart 22 = .ok (.iload_n 1, 1) := by decide +kernel
theorem dX4_apart_23 : decode cX4_apart 23 = .ok (.iload_n 2, 1) := by decide +kernel
theorem dX4_apart_24 : decode cX4_apart 24 = .ok (.invokevirtual 86, 3) := by decide +kernel
theorem dX4_apart_27 : decode cX4_apart 27 = .ok (.goto 8, 3) := by decide +kernel
theorem dX4_apart_30 : decode cX4_apart 30 = .ok (.aload_n 0, 1) := by decide +kernel
theorem dX4_apart_31 : decode cX4_apart 31 = .ok (.iconst 1, 1) := by decide +kernel
theorem dX4_apart_32 : decode cX4_apart 32 = .ok (.invokevirtual 36, 3) := by decide +kernel
theorem dX4_apart_35 : decode cX4_apart 35 = .ok (.ireturn, 1) := by decide +kernel
set_option maxRecDepth 20000 in
theorem ggX4_firstPreventer_X4_know : GoodIn wsX4_firstPreventer wsX4_know := goodIn_r _ [7, 8, 1, 9, 2, 10, 11, 12, 6, 13, 14, 15, 16, 17, 18, 19, 20, 21, 22, 23, 24, 25, 26, 27, 28, 29, 30, 31, 32, 33, 34, 35, 36, 37, 38, 39, 40, 41] (by decide +kernel) (by decide +kernel)
set_option maxRecDepth 20000 in
theorem gX4_firstPreventer_X4_know : GoodIn wsX4_firstPreventer (wsV RX4 76 RX4 yX4_know wsX4_know) := goodIn_app (goodIn_of _ (by decide +kernel)) ggX4_firstPreventer_X4_know
set_option maxRecDepth 20000 in
theorem ggX4_firstPreventer_X4_way : GoodIn wsX4_firstPreventer wsX4_way := goodIn_r _ [21, 9, 22, 23, 24, 6, 25, 26, 27, 28, 29, 30, 31, 32, 33, 34, 35, 36, 37, 38, 39, 40, 41] (by decide +kernel) (by decide +kernel)
set_option maxRecDepth 20000 in
theorem gX4_firstPreventer_X4_way : GoodIn wsX4_firstPreventer (wsV RX4 61 RX4 yX4_way wsX4_way) := goodIn_app (goodIn_of _ (by decide +kernel)) ggX4_firstPreventer_X4_way
set_option maxRecDepth 20000 in
theorem ggX4_firstPreventer_X4_has : GoodIn wsX4_firstPreventer wsX4_has := goodIn_r _ [29] (by decide +kernel) (by decide +kernel)
set_option maxRecDepth 20000 in
theorem gX4_firstPreventer_X4_has : GoodIn wsX4_firstPreventer (va_wsS RX4 54 yX4_has wsX4_has) := goodIn_app (goodIn_of _ (by decide +kernel)) ggX4_firstPreventer_X4_has
theorem dX4_firstPreventer_0 : decode cX4_firstPreventer 0 = .ok (.aload_n 0, 1) := by decide +kernel
theorem dX4_firstPreventer_1 : decode cX4_firstPreventer 1 = .ok (.invokevirtual 76, 3) := by decide +kernel
theorem dX4_firstPreventer_4 : decode cX4_firstPreventer 4 = .ok (.iconst 0, 1) := by decide +kernel
theorem dX4_firstPreventer_5 : decode cX4_firstPreventer 5 = .ok (.istore_n 3, 1) := by decide +kernel
theorem dX4_firstPreventer_6 : decode cX4_firstPreventer 6 = .ok (.iload_n 3, 1) := by decide +kernel
theorem dX4_firstPreventer_7 : decode cX4_firstPreventer 7 = .ok (.aload_n 0, 1) := by decide +kernel
theorem dX4_firstPreventer_8 : decode cX4_firstPreventer 8 = .ok (.getfield 67, 3) := by decide +kernel
theorem dX4_firstPreventer_11 : decode cX4_firstPreventer 11 = .ok (.if_icmp .ge 62, 3) := by decide +kernel
theorem dX4_firstPreventer_14 : decode cX4_firstPreventer 14 = .ok (.aload_n 0, 1) := by decide +kernel
theorem dX4_firstPreventer_15 : decode cX4_firstPreventer 15 = .ok (.aload_n 0, 1) := by decide +kernel
theorem dX4_firstPreventer_16 : decode cX4_firstPreventer 16 = .ok (.getfield 17, 3) := by decide +kernel
theorem dX4_firstPreventer_19 : decode cX4_firstPreventer 19 = .ok (.iload_n 3, 1) := by decide +kernel
theorem dX4_firstPreventer_20 : decode cX4_firstPreventer 20 = .ok (.iaload, 1) := by decide +kernel
theorem dX4_firstPreventer_21 : decode cX4_firstPreventer 21 = .ok (.iload_n 2, 1) := by decide +kernel
theorem dX4_firstPreventer_22 : decode cX4_firstPreventer 22 = .ok (.invokevirtual 61, 3) := by decide +kernel
theorem dX4_firstPreventer_25 : decode cX4_firstPreventer 25 = .ok (.istore 4, 2) := by decide +kernel
theorem dX4_firstPreventer_27 : decode cX4_firstPreventer 27 = .ok (.iload 4, 2) := by decide +kernel
theorem dX4_firstPreventer_29 : decode cX4_firstPreventer 29 = .ok (.iconst 2, 1) := by decide +kernel
theorem dX4_firstPreventer_30 : decode cX4_firstPreventer 30 = .ok (.if_icmp .ne 16, 3) := by decide +kernel
theorem dX4_firstPreventer_33 : decode cX4_firstPreventer 33 = .ok (.aload_n 0, 1) := by decide +kernel
theorem dX4_firstPreventer_34 : decode cX4_firstPreventer 34 = .ok (.getfield 17, 3) := by decide +kernel
theorem dX4_firstPreventer_37 : decode cX4_firstPreventer 37 = .ok (.iload_n 3, 1) := by decide +kernel
theorem dX4_firstPreventer_38 : decode cX4_firstPreventer 38 = .ok (.iaload, 1) := by decide +kernel
theorem dX4_firstPreventer_39 : decode cX4_firstPreventer 39 = .ok (.iload_n 1, 1) := by decide +kernel
theorem dX4_firstPreventer_40 : decode cX4_firstPreventer 40 = .ok (.invokestatic 54, 3) := by decide +kernel
theorem dX4_firstPreventer_43 : decode cX4_firstPreventer 43 = .ok (.ifCond .eq 22, 3) := by decide +kernel
theorem dX4_firstPreventer_46 : decode cX4_firstPreventer 46 = .ok (.iload 4, 2) := by decide +kernel
theorem dX4_firstPreventer_48 : decode cX4_firstPreventer 48 = .ok (.iconst 1, 1) := by decide +kernel
theorem dX4_firstPreventer_49 : decode cX4_firstPreventer 49 = .ok (.if_icmp .ne 18, 3) := by decide +kernel
theorem dX4_firstPreventer_52 : decode cX4_firstPreventer 52 = .ok (.aload_n 0, 1) := by decide +kernel
theorem dX4_firstPreventer_53 : decode cX4_firstPreventer 53 = .ok (.getfield 17, 3) := by decide +kernel
theorem dX4_firstPreventer_56 : decode cX4_firstPreventer 56 = .ok (.iload_n 3, 1) := by decide +kernel
theorem dX4_firstPreventer_57 : decode cX4_firstPreventer 57 = .ok (.iaload, 1) := by decide +kernel
theorem dX4_firstPreventer_58 : decode cX4_firstPreventer 58 = .ok (.iload_n 1, 1) := by decide +kernel
theorem dX4_firstPreventer_59 : decode cX4_firstPreventer 59 = .ok (.invokestatic 54, 3) := by decide +kernel
theorem dX4_firstPreventer_62 : decode cX4_firstPreventer 62 = .ok (.ifCond .eq 5, 3) := by decide +kernel
theorem dX4_firstPreventer_65 : decode cX4_firstPreventer 65 = .ok (.iload_n 3, 1) := by decide +kernel
theorem dX4_firstPreventer_66 : decode cX4_firstPreventer 66 = .ok (.ireturn, 1) := by decide +kernel
theorem dX4_firstPreventer_67 : decode cX4_firstPreventer 67 = .ok (.iinc 3 1, 3) := by decide +kernel
theorem dX4_firstPreventer_70 : decode cX4_firstPreventer 70 = .ok (.goto (-64), 3) := by decide +kernel
theorem dX4_firstPreventer_73 : decode cX4_firstPreventer 73 = .ok (.iconst (-1), 1) := by decide +kernel
theorem dX4_firstPreventer_74 : decode cX4_firstPreventer 74 = .ok (.ireturn, 1) := by decide +kernel
set_option maxRecDepth 20000 in
theorem ggX4_preventer_X4_isState : GoodIn wsX4_preventer wsX4_isState := goodIn_r _ [6, 7, 46, 47, 48, 49, 50, 51, 52, 53, 54, 55, 56, 57] (by decide +kernel) (by decide +kernel)
set_option maxRecDepth 20000 in
theorem gX4_preventer_X4_isState : GoodIn wsX4_preventer (wsV RX4 43 RX4 yX4_isState wsX4_isState) := goodIn_app (goodIn_of _ (by decide +kernel)) ggX4_preventer_X4_isState
set_option maxRecDepth 20000 in
theorem ggX4_preventer_X4_isLabel : GoodIn wsX4_preventer wsX4_isLabel := goodIn_r _ [10] (by decide +kernel) (by decide +kernel)
set_option maxRecDepth 20000 in
theorem gX4_preventer_X4_isLabel : GoodIn wsX4_preventer (va_wsS RX4 47 yX4_isLabel wsX4_isLabel) := goodIn_app (goodIn_of _ (by decide +kernel)) ggX4_preventer_X4_isLabel
set_option maxRecDepth 20000 in
theorem ggX4_preventer_X4_fail : GoodIn wsX4_preventer wsX4_fail := goodIn_r _ [14, 1, 46, 47, 48, 49, 50, 51, 52, 53, 54, 55, 56, 57] (by decide +kernel) (by decide +kernel)
set_option maxRecDepth 20000 in
theorem gX4_preventer_X4_fail : GoodIn wsX4_preventer (wsV RX4 36 RX4 yX4_fail wsX4_fail) := goodIn_app (goodIn_of _ (by decide +kernel)) ggX4_preventer_X4_fail
set_option maxRecDepth 20000 in
theorem ggX4_preventer_X4_to : GoodIn wsX4_preventer wsX4_to := goodIn_r _ [18, 19, 46, 47, 48, 49, 50, 51, 52, 53, 54, 55, 56, 57] (by decide +kernel) (by decide +kernel)
set_option maxRecDepth 20000 in
theorem gX4_preventer_X4_to : GoodIn wsX4_preventer (wsV RX4 50 RX4 yX4_to wsX4_to) := goodIn_app (goodIn_of _ (by decide +kernel)) ggX4_preventer_X4_to
set_option maxRecDepth 20000 in
theorem ggX4_preventer_X4_firstPreventer : GoodIn wsX4_preventer wsX4_firstPreventer := goodIn_r _ [23, 24, 25, 26, 27, 28, 5, 29, 30, 7, 31, 32, 33, 34, 35, 36, 37, 38, 39, 40, 41, 42, 15, 16, 17, 18, 19, 43, 44, 45, 46, 47, 48, 49, 50, 51, 52, 53, 54, 55, 56, 57] (by decide +kernel) (by decide +kernel)
set_option maxRecDepth 20000 in
theorem gX4_preventer_X4_firstPreventer : GoodIn wsX4_preventer (wsV RX4 89 RX4 yX4_firstPreventer wsX4_firstPreventer) := goodIn_app (goodIn_of _ (by decide +kernel)) ggX4_preventer_X4_firstPreventer
theorem dX4_preventer_0 : decode cX4_preventer 0 = .ok (.aload_n 0, 1) := by decide +kernel
theorem dX4_preventer_1 : decode cX4_preventer 1 = .ok (.iconst 0, 1) := by decide +kernel
theorem dX4_preventer_2 : decode cX4_preventer 2 = .ok (.putfield 26, 3) := by decide +kernel
theorem dX4_preventer_5 : decode cX4_preventer 5 = .ok (.aload_n 0, 1) := by decide +kernel
theorem dX4_preventer_6 : decode cX4_preventer 6 = .ok (.iload_n 1, 1) := by decide +kernel
theorem dX4_preventer_7 : decode cX4_preventer 7 = .ok (.invokevirtual 43, 3) := by decide +kernel
theorem dX4_preventer_10 : decode cX4_preventer 10 = .ok (.ifCond .eq 10, 3) := by decide +kernel
theorem dX4_preventer_13 : decode cX4_preventer 13 = .ok (.iload_n 2, 1) := by decide +kernel
theorem dX4_preventer_14 : decode cX4_preventer 14 = .ok (.invokestatic 47, 3) := by decide +kernel
theorem dX4_preventer_17 : decode cX4_preventer 17 = .ok (.ifCond .ne 9, 3) := by decide +kernel
theorem dX4_preventer_20 : decode cX4_preventer 20 = .ok (.aload_n 0, 1) := by decide +kernel
theorem dX4_preventer_21 : decode cX4_preventer 21 = .ok (.iconst 1, 1) := by decide +kernel
theorem dX4_preventer_22 : decode cX4_preventer 22 = .ok (.invokevirtual 36, 3) := by decide +kernel
theorem dX4_preventer_25 : decode cX4_preventer 25 = .ok (.ireturn, 1) := by decide +kernel
theorem dX4_preventer_26 : decode cX4_preventer 26 = .ok (.aload_n 0, 1) := by decide +kernel
theorem dX4_preventer_27 : decode cX4_preventer 27 = .ok (.iload_n 1, 1) := by decide +kernel
theorem dX4_preventer_28 : decode cX4_preventer 28 = .ok (.iload_n 2, 1) := by decide +kernel
theorem dX4_preventer_29 : decode cX4_preventer 29 = .ok (.invokevirtual 50, 3) := by decide +kernel
theorem dX4_preventer_32 : decode cX4_preventer 32 = .ok (.iconst (-1), 1) := by decide +kernel
theorem dX4_preventer_33 : decode cX4_preventer 33 = .ok (.if_icmp .eq 8, 3) := by decide +kernel
theorem dX4_preventer_36 : decode cX4_preventer 36 = .ok (.bipush (-2), 2) := by decide +kernel
theorem dX4_preventer_38 : decode cX4_preventer 38 = .ok (.goto 9, 3) := by decide +kernel
theorem dX4_preventer_41 : decode cX4_preventer 41 = .ok (.aload_n 0, 1) := by decide +kernel
theorem dX4_preventer_42 : decode cX4_preventer 42 = .ok (.iload_n 1, 1) := by decide +kernel
theorem dX4_preventer_43 : decode cX4_preventer 43 = .ok (.iload_n 2, 1) := by decide +kernel
theorem dX4_preventer_44 : decode cX4_preventer 44 = .ok (.invokevirtual 89, 3) := by decide +kernel
theorem dX4_preventer_47 : decode cX4_preventer 47 = .ok (.ireturn, 1) := by decide +kernel
set_option maxRecDepth 20000 in
theorem ggX4_lumpCount_X4_firstApart : GoodIn wsX4_lumpCount wsX4_firstApart := goodIn_r _ [6, 7, 8, 9, 10, 11, 5, 12, 13, 1, 14, 15, 16, 17, 18, 19, 20, 21, 22, 23, 24, 25, 26, 27, 28, 29, 30, 31, 32, 33, 34, 35, 36, 37, 38, 39, 40, 41, 42, 43, 44, 45] (by decide +kernel) (by decide +kernel)
set_option maxRecDepth 20000 in
theorem gX4_lumpCount_X4_firstApart : GoodIn wsX4_lumpCount (wsV RX4 86 RX4 yX4_firstApart wsX4_firstApart) := goodIn_app (goodIn_of _ (by decide +kernel)) ggX4_lumpCount_X4_firstApart
theorem dX4_lumpCount_0 : decode cX4_lumpCount 0 = .ok (.iconst 0, 1) := by decide +kernel
theorem dX4_lumpCount_1 : decode cX4_lumpCount 1 = .ok (.istore_n 1, 1) := by decide +kernel
theorem dX4_lumpCount_2 : decode cX4_lumpCount 2 = .ok (.iconst 0, 1) := by decide +kernel
theorem dX4_lumpCount_3 : decode cX4_lumpCount 3 = .ok (.istore_n 2, 1) := by decide +kernel
theorem dX4_lumpCount_4 : decode cX4_lumpCount 4 = .ok (.iload_n 2, 1) := by decide +kernel
theorem dX4_lumpCount_5 : decode cX4_lumpCount 5 = .ok (.aload_n 0, 1) := by decide +kernel
theorem dX4_lumpCount_6 : decode cX4_lumpCount 6 = .ok (.getfield 9, 3) := by decide +kernel
theorem dX4_lumpCount_9 : decode cX4_lumpCount 9 = .ok (.if_icmp .ge 40, 3) := by decide +kernel
theorem dX4_lumpCount_12 : decode cX4_lumpCount 12 = .ok (.iconst 0, 1) := by decide +kernel
theorem dX4_lumpCount_13 : decode cX4_lumpCount 13 = .ok (.istore_n 3, 1) := by decide +kernel
theorem dX4_lumpCount_14 : decode cX4_lumpCount 14 = .ok (.iload_n 3, 1) := by decide +kernel
theorem dX4_lumpCount_15 : decode cX4_lumpCount 15 = .ok (.iload_n 2, 1) := by decide +kernel
theorem dX4_lumpCount_16 : decode cX4_lumpCount 16 = .ok (.if_icmp .ge 27, 3) := by decide +kernel
theorem dX4_lumpCount_19 : decode cX4_lumpCount 19 = .ok (.iload_n 1, 1) := by decide +kernel
theorem dX4_lumpCount_20 : decode cX4_lumpCount 20 = .ok (.aload_n 0, 1) := by decide +kernel
theorem dX4_lumpCount_21 : decode cX4_lumpCount 21 = .ok (.iload_n 2, 1) := by decide +kernel
theorem dX4_lumpCount_22 : decode cX4_lumpCount 22 = .ok (.iload_n 3, 1) := by decide +kernel
theorem dX4_lumpCount_23 : decode cX4_lumpCount 23 = .ok (.invokevirtual 86, 3) := by decide +kernel
theorem dX4_lumpCount_26 : decode cX4_lumpCount 26 = .ok (.iconst (-1), 1) := by decide +kernel
theorem dX4_lumpCount_27 : decode cX4_lumpCount 27 = .ok (.if_icmp .ne 7, 3) := by decide +kernel
theorem dX4_lumpCount_30 : decode cX4_lumpCount 30 = .ok (.iconst 1, 1) := by decide +kernel
theorem dX4_lumpCount_31 : decode cX4_lumpCount 31 = .ok (.goto 4, 3) := by decide +kernel
theorem dX4_lumpCount_34 : decode cX4_lumpCount 34 = .ok (.iconst 0, 1) := by decide +kernel
theorem dX4_lumpCount_35 : decode cX4_lumpCount 35 = .ok (.iadd, 1) := by decide +kernel
theorem dX4_lumpCount_36 : decode cX4_lumpCount 36 = .ok (.istore_n 1, 1) := by decide +kernel
theorem dX4_lumpCount_37 : decode cX4_lumpCount 37 = .ok (.iinc 3 1, 3) := by decide +kernel
theorem dX4_lumpCount_40 : decode cX4_lumpCount 40 = .ok (.goto (-26), 3) := by decide +kernel
theorem dX4_lumpCount_43 : decode cX4_lumpCount 43 = .ok (.iinc 2 1, 3) := by decide +kernel
theorem dX4_lumpCount_46 : decode cX4_lumpCount 46 = .ok (.goto (-42), 3) := by decide +kernel
theorem dX4_lumpCount_49 : decode cX4_lumpCount 49 = .ok (.iload_n 1, 1) := by decide +kernel
theorem dX4_lumpCount_50 : decode cX4_lumpCount 50 = .ok (.ireturn, 1) := by decide +kernel
set_option maxRecDepth 20000 in
theorem ggX4_lumps_X4_lumpCount : GoodIn wsX4_lumps wsX4_lumpCount := goodIn_r _ [6, 7, 8, 9, 10, 5, 11, 12, 13, 14, 15, 16, 17, 18, 19, 20, 21, 22, 23, 24, 25, 26, 27, 28, 29, 30, 31, 32, 33, 34, 35, 36, 37, 38, 39, 40, 41, 42, 43, 44, 45, 46, 47, 48, 49, 50] (by decide +kernel) (by decide +kernel)
set_option maxRecDepth 20000 in
theorem gX4_lumps_X4_lumpCount : GoodIn wsX4_lumps (wsV RX4 92 RX4 yX4_lumpCount wsX4_lumpCount) := goodIn_app (goodIn_of _ (by decide +kernel)) ggX4_lumps_X4_lumpCount
theorem dX4_lumps_0 : decode cX4_lumps 0 = .ok (.aload_n 0, 1) := by decide +kernel
theorem dX4_lumps_1 : decode cX4_lumps 1 = .ok (.iconst 0, 1) := by decide +kernel
theorem dX4_lumps_2 : decode cX4_lumps 2 = .ok (.putfield 26, 3) := by decide +kernel
theorem dX4_lumps_5 : decode cX4_lumps 5 = .ok (.aload_n 0, 1) := by decide +kernel
theorem dX4_lumps_6 : decode cX4_lumps 6 = .ok (.invokevirtual 92, 3) := by decide +kernel
theorem dX4_lumps_9 : decode cX4_lumps 9 = .ok (.ireturn, 1) := by decide +kernel
set_option maxRecDepth 20000 in
theorem ggX4_isAsked_X4_to : GoodIn wsX4_isAsked wsX4_to := goodIn_r _ [5, 6, 12, 13, 14, 15, 16, 17, 18, 19, 20, 21, 22, 23] (by decide +kernel) (by decide +kernel)
set_option maxRecDepth 20000 in
theorem gX4_isAsked_X4_to : GoodIn wsX4_isAsked (wsV RX4 50 RX4 yX4_to wsX4_to) := goodIn_app (goodIn_of _ (by decide +kernel)) ggX4_isAsked_X4_to
set_option maxRecDepth 20000 in
theorem ggX4_isAsked_X4_ends : GoodIn wsX4_isAsked wsX4_ends := goodIn_r _ [10, 11, 1, 2, 3, 4, 5, 6, 12, 13, 14, 15, 16, 17, 18, 19, 20, 21, 22, 23] (by decide +kernel) (by decide +kernel)
set_option maxRecDepth 20000 in
theorem gX4_isAsked_X4_ends : GoodIn wsX4_isAsked (wsV RX4 82 RX4 yX4_ends wsX4_ends) := goodIn_app (goodIn_of _ (by decide +kernel)) ggX4_isAsked_X4_ends
theorem dX4_isAsked_0 : decode cX4_isAsked 0 = .ok (.aload_n 0, 1) := by decide +kernel
theorem dX4_isAsked_1 : decode cX4_isAsked 1 = .ok (.iload_n 1, 1) := by decide +kernel
theorem dX4_isAsked_2 : decode cX4_isAsked 2 = .ok (.iload_n 2, 1) := by decide +kernel
theorem dX4_isAsked_3 : decode cX4_isAsked 3 = .ok (.invokevirtual 50, 3) := by decide +kernel
theorem dX4_isAsked_6 : decode cX4_isAsked 6 = .ok (.iconst (-1), 1) := by decide +kernel
theorem dX4_isAsked_7 : decode cX4_isAsked 7 = .ok (.if_icmp .ne 16, 3) := by decide +kernel
theorem dX4_isAsked_10 : decode cX4_isAsked 10 = .ok (.aload_n 0, 1) := by decide +kernel
theorem dX4_isAsked_11 : decode cX4_isAsked 11 = .ok (.iload_n 2, 1) := by decide +kernel
theorem dX4_isAsked_12 : decode cX4_isAsked 12 = .ok (.iconst 1, 1) := by decide +kernel
theorem dX4_isAsked_13 : decode cX4_isAsked 13 = .ok (.invokevirtual 82, 3) := by decide +kernel
theorem dX4_isAsked_16 : decode cX4_isAsked 16 = .ok (.ifCond .eq 7, 3) := by decide +kernel
theorem dX4_isAsked_19 : decode cX4_isAsked 19 = .ok (.iconst 1, 1) := by decide +kernel
theorem dX4_isAsked_20 : decode cX4_isAsked 20 = .ok (.goto 4, 3) := by decide +kernel
theorem dX4_isAsked_23 : decode cX4_isAsked 23 = .ok (.iconst 0, 1) := by decide +kernel
theorem dX4_isAsked_24 : decode cX4_isAsked 24 = .ok (.ireturn, 1) := by decide +kernel
set_option maxRecDepth 20000 in
theorem ggX4_leakCount_X4_isAsked : GoodIn wsX4_leakCount wsX4_isAsked := goodIn_r _ [6, 7, 8, 9, 5, 10, 11, 12, 13, 14, 15, 1, 42, 43, 44, 45, 46, 47, 48, 49, 50, 51, 52, 53] (by decide +kernel) (by decide +kernel)
set_option maxRecDepth 20000 in
theorem gX4_leakCount_X4_isAsked : GoodIn wsX4_leakCount (wsV RX4 96 RX4 yX4_isAsked wsX4_isAsked) := goodIn_app (goodIn_of _ (by decide +kernel)) ggX4_leakCount_X4_isAsked
set_option maxRecDepth 20000 in
theorem ggX4_leakCount_X4_firstPreventer : GoodIn wsX4_leakCount wsX4_firstPreventer := goodIn_r _ [19, 20, 21, 22, 23, 24, 5, 25, 26, 1, 27, 28, 29, 30, 31, 32, 33, 34, 35, 36, 37, 38, 7, 8, 9, 10, 11, 39, 40, 41, 42, 43, 44, 45, 46, 47, 48, 49, 50, 51, 52, 53] (by decide +kernel) (by decide +kernel)
set_option maxRecDepth 20000 in
theorem gX4_leakCount_X4_firstPreventer : GoodIn wsX4_leakCount (wsV RX4 89 RX4 yX4_firstPreventer wsX4_firstPreventer) := goodIn_app (goodIn_of _ (by decide +kernel)) ggX4_leakCount_X4_firstPreventer
theorem dX4_leakCount_0 : decode cX4_leakCount 0 = .ok (.iconst 0, 1) := by decide +kernel
theorem dX4_leakCount_1 : decode cX4_leakCount 1 = .ok (.istore_n 1, 1) := by decide +kernel
theorem dX4_leakCount_2 : decode cX4_leakCount 2 = .ok (.iconst 0, 1) := by decide +kernel
theorem dX4_leakCount_3 : decode cX4_leakCount 3 = .ok (.istore_n 2, 1) := by decide +kernel
theorem dX4_leakCount_4 : decode cX4_leakCount 4 = .ok (.iload_n 2, 1) := by decide +kernel
theorem dX4_leakCount_5 : decode cX4_leakCount 5 = .ok (.aload_n 0, 1) := by decide +kernel
theorem dX4_leakCount_6 : decode cX4_leakCount 6 = .ok (.getfield 9, 3) := by decide +kernel
theorem dX4_leakCount_9 : decode cX4_leakCount 9 = .ok (.if_icmp .ge 50, 3) := by decide +kernel
theorem dX4_leakCount_12 : decode cX4_leakCount 12 = .ok (.iconst 0, 1) := by decide +kernel
theorem dX4_leakCount_13 : decode cX4_leakCount 13 = .ok (.istore_n 3, 1) := by decide +kernel
theorem dX4_leakCount_14 : decode cX4_leakCount 14 = .ok (.iload_n 3, 1) := by decide +kernel
theorem dX4_leakCount_15 : decode cX4_leakCount 15 = .ok (.bipush 6, 2) := by decide +kernel
theorem dX4_leakCount_17 : decode cX4_leakCount 17 = .ok (.if_icmp .ge 36, 3) := by decide +kernel
theorem dX4_leakCount_20 : decode cX4_leakCount 20 = .ok (.iload_n 1, 1) := by decide +kernel
theorem dX4_leakCount_21 : decode cX4_leakCount 21 = .ok (.aload_n 0, 1) := by decide +kernel
theorem dX4_leakCount_22 : decode cX4_leakCount 22 = .ok (.iload_n 2, 1) := by decide +kernel
theorem dX4_leakCount_23 : decode cX4_leakCount 23 = .ok (.iload_n 3, 1) := by decide +kernel
theorem dX4_leakCount_24 : decode cX4_leakCount 24 = .ok (.invokevirtual 96, 3) := by decide +kernel
theorem dX4_leakCount_27 : decode cX4_leakCount 27 = .ok (.ifCond .eq 17, 3) := by decide +kernel
theorem dX4_leakCount_30 : decode cX4_leakCount 30 = .ok (.aload_n 0, 1) := by decide +kernel
theorem dX4_leakCount_31 : decode cX4_leakCount 31 = .ok (.iload_n 2, 1) := by decide +kernel
theorem dX4_leakCount_32 : decode cX4_leakCount 32 = .ok (.iload_n 3, 1) := by decide +kernel
theorem dX4_leakCount_33 : decode cX4_leakCount 33 = .ok (.invokevirtual 89, 3) := by decide +kernel
theorem dX4_leakCount_36 : decode cX4_leakCount 36 = .ok (.iconst (-1), 1) := by decide +kernel
theorem dX4_leakCount_37 : decode cX4_leakCount 37 = .ok (.if_icmp .ne 7, 3) := by decide +kernel
theorem dX4_leakCount_40 : decode cX4_leakCount 40 = .ok (.iconst 1, 1) := by decide +kernel
theorem dX4_leakCount_41 : decode cX4_leakCount 41 = .ok (.goto 4, 3) := by decide +kernel
theorem dX4_leakCount_44 : decode cX4_leakCount 44 = .ok (.iconst 0, 1) := by decide +kernel
theorem dX4_leakCount_45 : decode cX4_leakCount 45 = .ok (.iadd, 1) := by decide +kernel
theorem dX4_leakCount_46 : decode cX4_leakCount 46 = .ok (.istore_n 1, 1) := by decide +kernel
theorem dX4_leakCount_47 : decode cX4_leakCount 47 = .ok (.iinc 3 1, 3) := by decide +kernel
theorem dX4_leakCount_50 : decode cX4_leakCount 50 = .ok (.goto (-36), 3) := by decide +kernel
theorem dX4_leakCount_53 : decode cX4_leakCount 53 = .ok (.iinc 2 1, 3) := by decide +kernel
theorem dX4_leakCount_56 : decode cX4_leakCount 56 = .ok (.goto (-52), 3) := by decide +kernel
theorem dX4_leakCount_59 : decode cX4_leakCount 59 = .ok (.iload_n 1, 1) := by decide +kernel
theorem dX4_leakCount_60 : decode cX4_leakCount 60 = .ok (.ireturn, 1) := by decide +kernel
set_option maxRecDepth 20000 in
theorem ggX4_leaks_X4_leakCount : GoodIn wsX4_leaks wsX4_leakCount := goodIn_r _ [6, 7, 8, 9, 10, 5, 11, 12, 13, 14, 15, 16, 17, 18, 19, 20, 21, 22, 23, 24, 25, 26, 27, 28, 29, 30, 31, 32, 33, 34, 35, 36, 37, 38, 39, 40, 41, 42, 43, 44, 45, 46, 47, 48, 49, 50, 51, 52, 53, 54, 55, 56, 57, 58] (by decide +kernel) (by decide +kernel)
set_option maxRecDepth 20000 in
theorem gX4_leaks_X4_leakCount : GoodIn wsX4_leaks (wsV RX4 99 RX4 yX4_leakCount wsX4_leakCount) := goodIn_app (goodIn_of _ (by decide +kernel)) ggX4_leaks_X4_leakCount
theorem dX4_leaks_0 : decode cX4_leaks 0 = .ok (.aload_n 0, 1) := by decide +kernel
theorem dX4_leaks_1 : decode cX4_leaks 1 = .ok (.iconst 0, 1) := by decide +kernel
theorem dX4_leaks_2 : decode cX4_leaks 2 = .ok (.putfield 26, 3) := by decide +kernel
theorem dX4_leaks_5 : decode cX4_leaks 5 = .ok (.aload_n 0, 1) := by decide +kernel
theorem dX4_leaks_6 : decode cX4_leaks 6 = .ok (.invokevirtual 99, 3) := by decide +kernel
theorem dX4_leaks_9 : decode cX4_leaks 9 = .ok (.ireturn, 1) := by decide +kernel
set_option maxRecDepth 20000 in
theorem ggX4_fidelity_X4_isAsked : GoodIn wsX4_fidelity wsX4_isAsked := goodIn_r _ [7, 8, 9, 10, 6, 11, 12, 13, 14, 15, 16, 2, 55, 56, 57, 58, 59, 60, 61, 62, 63, 64, 65, 66] (by decide +kernel) (by decide +kernel)
set_option maxRecDepth 20000 in
theorem gX4_fidelity_X4_isAsked : GoodIn wsX4_fidelity (wsV RX4 96 RX4 yX4_isAsked wsX4_isAsked) := goodIn_app (goodIn_of _ (by decide +kernel)) ggX4_fidelity_X4_isAsked
