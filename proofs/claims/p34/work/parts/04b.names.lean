theorem dX0_init_0 : decode cX0_init 0 = .ok (.aload_n 0, 1) := by decide +kernel
theorem dX0_init_1 : decode cX0_init 1 = .ok (.invokespecial 3, 3) := by decide +kernel
theorem dX0_init_4 : decode cX0_init 4 = .ok (.aload_n 0, 1) := by decide +kernel
theorem dX0_init_5 : decode cX0_init 5 = .ok (.aload_n 1, 1) := by decide +kernel
theorem dX0_init_6 : decode cX0_init 6 = .ok (.putfield 9, 3) := by decide +kernel
theorem dX0_init_9 : decode cX0_init 9 = .ok (.aload_n 0, 1) := by decide +kernel
theorem dX0_init_10 : decode cX0_init 10 = .ok (.aload_n 2, 1) := by decide +kernel
theorem dX0_init_11 : decode cX0_init 11 = .ok (.putfield 15, 3) := by decide +kernel
theorem dX0_init_14 : decode cX0_init 14 = .ok (.aload_n 0, 1) := by decide +kernel
theorem dX0_init_15 : decode cX0_init 15 = .ok (.bipush 30, 2) := by decide +kernel
theorem dX0_init_17 : decode cX0_init 17 = .ok (.newarray .int, 2) := by decide +kernel
theorem dX0_init_19 : decode cX0_init 19 = .ok (.putfield 19, 3) := by decide +kernel
theorem dX0_init_22 : decode cX0_init 22 = .ok (.aload_n 0, 1) := by decide +kernel
theorem dX0_init_23 : decode cX0_init 23 = .ok (.bipush 6, 2) := by decide +kernel
theorem dX0_init_25 : decode cX0_init 25 = .ok (.newarray .int, 2) := by decide +kernel
theorem dX0_init_27 : decode cX0_init 27 = .ok (.putfield 23, 3) := by decide +kernel
theorem dX0_init_30 : decode cX0_init 30 = .ok (.aload_n 0, 1) := by decide +kernel
theorem dX0_init_31 : decode cX0_init 31 = .ok (.bipush 6, 2) := by decide +kernel
theorem dX0_init_33 : decode cX0_init 33 = .ok (.newarray .int, 2) := by decide +kernel
theorem dX0_init_35 : decode cX0_init 35 = .ok (.putfield 26, 3) := by decide +kernel
theorem dX0_init_38 : decode cX0_init 38 = .ok (.aload_n 0, 1) := by decide +kernel
theorem dX0_init_39 : decode cX0_init 39 = .ok (.sipush 200, 3) := by decide +kernel
theorem dX0_init_42 : decode cX0_init 42 = .ok (.newarray .int, 2) := by decide +kernel
theorem dX0_init_44 : decode cX0_init 44 = .ok (.putfield 29, 3) := by decide +kernel
theorem dX0_init_47 : decode cX0_init 47 = .ok (.return_, 1) := by decide +kernel
set_option maxRecDepth 20000 in
theorem ggX0_make_X0_choosePlaces : GoodIn wsX0_make wsX0_choosePlaces := goodIn_r _ [10, 11, 12, 13, 14, 15, 16, 17, 18, 19, 20, 21, 22, 23, 24, 25, 26, 27, 28, 29, 30, 31, 32, 33, 34, 35, 36, 37, 38, 39, 40, 41, 42, 43, 44, 45, 46, 47, 48, 49, 50, 9, 51, 65, 66, 67, 68, 69, 70, 71, 72, 73, 74, 75, 76, 77, 78, 79, 80, 81, 82, 83, 84] (by decide +kernel) (by decide +kernel)
set_option maxRecDepth 20000 in
theorem gX0_make_X0_choosePlaces : GoodIn wsX0_make (wsV RX0 32 RX0 yX0_choosePlaces wsX0_choosePlaces) := goodIn_app (goodIn_of _ (by decide +kernel)) ggX0_make_X0_choosePlaces
set_option maxRecDepth 20000 in
theorem ggX0_make_X0_placesCrossed : GoodIn wsX0_make wsX0_placesCrossed := goodIn_r _ [55, 11, 56, 13, 57, 38, 39, 30, 40, 41, 42, 43, 65, 66, 67, 68, 69, 70, 71, 72, 73, 74, 75, 80, 81, 82, 83, 84] (by decide +kernel) (by decide +kernel)
set_option maxRecDepth 20000 in
theorem gX0_make_X0_placesCrossed : GoodIn wsX0_make (wsV RX0 35 RX0 yX0_placesCrossed wsX0_placesCrossed) := goodIn_app (goodIn_of _ (by decide +kernel)) ggX0_make_X0_placesCrossed
set_option maxRecDepth 20000 in
theorem ggX0_make_X0_placesWith : GoodIn wsX0_make wsX0_placesWith := goodIn_r _ [61, 11, 13, 62, 63, 64, 65, 66, 67, 68, 69, 70, 71, 72, 73, 74, 75] (by decide +kernel) (by decide +kernel)
set_option maxRecDepth 20000 in
theorem gX0_make_X0_placesWith : GoodIn wsX0_make (wsV RX0 39 RX0 yX0_placesWith wsX0_placesWith) := goodIn_app (goodIn_of _ (by decide +kernel)) ggX0_make_X0_placesWith
theorem dX0_make_0 : decode cX0_make 0 = .ok (.aload_n 0, 1) := by decide +kernel
theorem dX0_make_1 : decode cX0_make 1 = .ok (.invokevirtual 32, 3) := by decide +kernel
theorem dX0_make_4 : decode cX0_make 4 = .ok (.iconst 0, 1) := by decide +kernel
theorem dX0_make_5 : decode cX0_make 5 = .ok (.istore_n 1, 1) := by decide +kernel
theorem dX0_make_6 : decode cX0_make 6 = .ok (.iload_n 1, 1) := by decide +kernel
theorem dX0_make_7 : decode cX0_make 7 = .ok (.bipush 6, 2) := by decide +kernel
theorem dX0_make_9 : decode cX0_make 9 = .ok (.if_icmp .ge 33, 3) := by decide +kernel
theorem dX0_make_12 : decode cX0_make 12 = .ok (.aload_n 0, 1) := by decide +kernel
theorem dX0_make_13 : decode cX0_make 13 = .ok (.getfield 23, 3) := by decide +kernel
theorem dX0_make_16 : decode cX0_make 16 = .ok (.iload_n 1, 1) := by decide +kernel
theorem dX0_make_17 : decode cX0_make 17 = .ok (.aload_n 0, 1) := by decide +kernel
theorem dX0_make_18 : decode cX0_make 18 = .ok (.iload_n 1, 1) := by decide +kernel
theorem dX0_make_19 : decode cX0_make 19 = .ok (.iconst 2, 1) := by decide +kernel
theorem dX0_make_20 : decode cX0_make 20 = .ok (.invokevirtual 35, 3) := by decide +kernel
theorem dX0_make_23 : decode cX0_make 23 = .ok (.iastore, 1) := by decide +kernel
theorem dX0_make_24 : decode cX0_make 24 = .ok (.aload_n 0, 1) := by decide +kernel
theorem dX0_make_25 : decode cX0_make 25 = .ok (.getfield 26, 3) := by decide +kernel
theorem dX0_make_28 : decode cX0_make 28 = .ok (.iload_n 1, 1) := by decide +kernel
theorem dX0_make_29 : decode cX0_make 29 = .ok (.aload_n 0, 1) := by decide +kernel
theorem dX0_make_30 : decode cX0_make 30 = .ok (.iload_n 1, 1) := by decide +kernel
theorem dX0_make_31 : decode cX0_make 31 = .ok (.iconst 1, 1) := by decide +kernel
theorem dX0_make_32 : decode cX0_make 32 = .ok (.invokevirtual 35, 3) := by decide +kernel
theorem dX0_make_35 : decode cX0_make 35 = .ok (.iastore, 1) := by decide +kernel
theorem dX0_make_36 : decode cX0_make 36 = .ok (.iinc 1 1, 3) := by decide +kernel
theorem dX0_make_39 : decode cX0_make 39 = .ok (.goto (-33), 3) := by decide +kernel
theorem dX0_make_42 : decode cX0_make 42 = .ok (.aload_n 0, 1) := by decide +kernel
theorem dX0_make_43 : decode cX0_make 43 = .ok (.aload_n 0, 1) := by decide +kernel
theorem dX0_make_44 : decode cX0_make 44 = .ok (.iconst 0, 1) := by decide +kernel
theorem dX0_make_45 : decode cX0_make 45 = .ok (.invokevirtual 39, 3) := by decide +kernel
theorem dX0_make_48 : decode cX0_make 48 = .ok (.putfield 43, 3) := by decide +kernel
theorem dX0_make_51 : decode cX0_make 51 = .ok (.aload_n 0, 1) := by decide +kernel
theorem dX0_make_52 : decode cX0_make 52 = .ok (.iconst 0, 1) := by decide +kernel
theorem dX0_make_53 : decode cX0_make 53 = .ok (.putfield 47, 3) := by decide +kernel
theorem dX0_make_56 : decode cX0_make 56 = .ok (.aload_n 0, 1) := by decide +kernel
theorem dX0_make_57 : decode cX0_make 57 = .ok (.iconst 1, 1) := by decide +kernel
theorem dX0_make_58 : decode cX0_make 58 = .ok (.putfield 50, 3) := by decide +kernel
theorem dX0_make_61 : decode cX0_make 61 = .ok (.return_, 1) := by decide +kernel
set_option maxRecDepth 20000 in
theorem ggX0_choosePlaces_X1_count : GoodIn wsX0_choosePlaces wsX1_count := goodIn_r _ [8, 9, 10, 11, 12, 13, 7, 14, 15, 16, 17, 18, 19, 20, 21, 22, 23, 24, 25, 26, 27, 28, 29, 30, 31, 32, 33, 54, 55, 56, 57, 58, 59, 60, 61, 62] (by decide +kernel) (by decide +kernel)
set_option maxRecDepth 20000 in
theorem gX0_choosePlaces_X1_count : GoodIn wsX0_choosePlaces (wsV RX0 57 RX1 yX1_count wsX1_count) := goodIn_app (goodIn_of _ (by decide +kernel)) ggX0_choosePlaces_X1_count
set_option maxRecDepth 20000 in
theorem ggX0_choosePlaces_X1_at : GoodIn wsX0_choosePlaces wsX1_at := goodIn_r _ [37, 16, 54, 55, 56, 57] (by decide +kernel) (by decide +kernel)
set_option maxRecDepth 20000 in
theorem gX0_choosePlaces_X1_at : GoodIn wsX0_choosePlaces (wsV RX0 63 RX1 yX1_at wsX1_at) := goodIn_app (goodIn_of _ (by decide +kernel)) ggX0_choosePlaces_X1_at
set_option maxRecDepth 20000 in
theorem ggX0_choosePlaces_X0_holdsPlace : GoodIn wsX0_choosePlaces wsX0_holdsPlace := goodIn_r _ [42, 1, 3, 43, 44, 45, 46, 47, 48, 49, 50, 51, 52, 53] (by decide +kernel) (by decide +kernel)
set_option maxRecDepth 20000 in
theorem gX0_choosePlaces_X0_holdsPlace : GoodIn wsX0_choosePlaces (wsV RX0 66 RX0 yX0_holdsPlace wsX0_holdsPlace) := goodIn_app (goodIn_of _ (by decide +kernel)) ggX0_choosePlaces_X0_holdsPlace
theorem dX0_choosePlaces_0 : decode cX0_choosePlaces 0 = .ok (.aload_n 0, 1) := by decide +kernel
theorem dX0_choosePlaces_1 : decode cX0_choosePlaces 1 = .ok (.iconst 0, 1) := by decide +kernel
theorem dX0_choosePlaces_2 : decode cX0_choosePlaces 2 = .ok (.putfield 54, 3) := by decide +kernel
theorem dX0_choosePlaces_5 : decode cX0_choosePlaces 5 = .ok (.aload_n 0, 1) := by decide +kernel
theorem dX0_choosePlaces_6 : decode cX0_choosePlaces 6 = .ok (.getfield 15, 3) := by decide +kernel
theorem dX0_choosePlaces_9 : decode cX0_choosePlaces 9 = .ok (.invokevirtual 57, 3) := by decide +kernel
theorem dX0_choosePlaces_12 : decode cX0_choosePlaces 12 = .ok (.istore_n 1, 1) := by decide +kernel
theorem dX0_choosePlaces_13 : decode cX0_choosePlaces 13 = .ok (.iconst 0, 1) := by decide +kernel
theorem dX0_choosePlaces_14 : decode cX0_choosePlaces 14 = .ok (.istore_n 2, 1) := by decide +kernel
theorem dX0_choosePlaces_15 : decode cX0_choosePlaces 15 = .ok (.iload_n 2, 1) := by decide +kernel
theorem dX0_choosePlaces_16 : decode cX0_choosePlaces 16 = .ok (.iload_n 1, 1) := by decide +kernel
theorem dX0_choosePlaces_17 : decode cX0_choosePlaces 17 = .ok (.if_icmp .ge 55, 3) := by decide +kernel
theorem dX0_choosePlaces_20 : decode cX0_choosePlaces 20 = .ok (.aload_n 0, 1) := by decide +kernel
theorem dX0_choosePlaces_21 : decode cX0_choosePlaces 21 = .ok (.getfield 54, 3) := by decide +kernel
theorem dX0_choosePlaces_24 : decode cX0_choosePlaces 24 = .ok (.bipush 30, 2) := by decide +kernel
theorem dX0_choosePlaces_26 : decode cX0_choosePlaces 26 = .ok (.if_icmp .ge 46, 3) := by decide +kernel
theorem dX0_choosePlaces_29 : decode cX0_choosePlaces 29 = .ok (.aload_n 0, 1) := by decide +kernel
theorem dX0_choosePlaces_30 : decode cX0_choosePlaces 30 = .ok (.getfield 15, 3) := by decide +kernel
theorem dX0_choosePlaces_33 : decode cX0_choosePlaces 33 = .ok (.iload_n 2, 1) := by decide +kernel
theorem dX0_choosePlaces_34 : decode cX0_choosePlaces 34 = .ok (.invokevirtual 63, 3) := by decide +kernel
theorem dX0_choosePlaces_37 : decode cX0_choosePlaces 37 = .ok (.istore_n 3, 1) := by decide +kernel
theorem dX0_choosePlaces_38 : decode cX0_choosePlaces 38 = .ok (.aload_n 0, 1) := by decide +kernel
theorem dX0_choosePlaces_39 : decode cX0_choosePlaces 39 = .ok (.iload_n 3, 1) := by decide +kernel
theorem dX0_choosePlaces_40 : decode cX0_choosePlaces 40 = .ok (.invokevirtual 66, 3) := by decide +kernel
theorem dX0_choosePlaces_43 : decode cX0_choosePlaces 43 = .ok (.ifCond .ne 23, 3) := by decide +kernel
theorem dX0_choosePlaces_46 : decode cX0_choosePlaces 46 = .ok (.aload_n 0, 1) := by decide +kernel
theorem dX0_choosePlaces_47 : decode cX0_choosePlaces 47 = .ok (.getfield 19, 3) := by decide +kernel
theorem dX0_choosePlaces_50 : decode cX0_choosePlaces 50 = .ok (.aload_n 0, 1) := by decide +kernel
theorem dX0_choosePlaces_51 : decode cX0_choosePlaces 51 = .ok (.getfield 54, 3) := by decide +kernel
theorem dX0_choosePlaces_54 : decode cX0_choosePlaces 54 = .ok (.iload_n 3, 1) := by decide +kernel
theorem dX0_choosePlaces_55 : decode cX0_choosePlaces 55 = .ok (.iastore, 1) := by decide +kernel
theorem dX0_choosePlaces_56 : decode cX0_choosePlaces 56 = .ok (.aload_n 0, 1) := by decide +kernel
theorem dX0_choosePlaces_57 : decode cX0_choosePlaces 57 = .ok (.dup, 1) := by decide +kernel
theorem dX0_choosePlaces_58 : decode cX0_choosePlaces 58 = .ok (.getfield 54, 3) := by decide +kernel
theorem dX0_choosePlaces_61 : decode cX0_choosePlaces 61 = .ok (.iconst 1, 1) := by decide +kernel
theorem dX0_choosePlaces_62 : decode cX0_choosePlaces 62 = .ok (.iadd, 1) := by decide +kernel
theorem dX0_choosePlaces_63 : decode cX0_choosePlaces 63 = .ok (.putfield 54, 3) := by decide +kernel
theorem dX0_choosePlaces_66 : decode cX0_choosePlaces 66 = .ok (.iinc 2 1, 3) := by decide +kernel
theorem dX0_choosePlaces_69 : decode cX0_choosePlaces 69 = .ok (.goto (-54), 3) := by decide +kernel
theorem dX0_choosePlaces_72 : decode cX0_choosePlaces 72 = .ok (.return_, 1) := by decide +kernel
theorem dX0_holdsPlace_0 : decode cX0_holdsPlace 0 = .ok (.iconst 0, 1) := by decide +kernel
theorem dX0_holdsPlace_1 : decode cX0_holdsPlace 1 = .ok (.istore_n 2, 1) := by decide +kernel
theorem dX0_holdsPlace_2 : decode cX0_holdsPlace 2 = .ok (.iload_n 2, 1) := by decide +kernel
theorem dX0_holdsPlace_3 : decode cX0_holdsPlace 3 = .ok (.aload_n 0, 1) := by decide +kernel
theorem dX0_holdsPlace_4 : decode cX0_holdsPlace 4 = .ok (.getfield 54, 3) := by decide +kernel
theorem dX0_holdsPlace_7 : decode cX0_holdsPlace 7 = .ok (.if_icmp .ge 24, 3) := by decide +kernel
theorem dX0_holdsPlace_10 : decode cX0_holdsPlace 10 = .ok (.aload_n 0, 1) := by decide +kernel
theorem dX0_holdsPlace_11 : decode cX0_holdsPlace 11 = .ok (.getfield 19, 3) := by decide +kernel
theorem dX0_holdsPlace_14 : decode cX0_holdsPlace 14 = .ok (.iload_n 2, 1) := by decide +kernel
theorem dX0_holdsPlace_15 : decode cX0_holdsPlace 15 = .ok (.iaload, 1) := by decide +kernel
theorem dX0_holdsPlace_16 : decode cX0_holdsPlace 16 = .ok (.iload_n 1, 1) := by decide +kernel
theorem dX0_holdsPlace_17 : decode cX0_holdsPlace 17 = .ok (.iconst (-1), 1) := by decide +kernel
theorem dX0_holdsPlace_18 : decode cX0_holdsPlace 18 = .ok (.ixor, 1) := by decide +kernel
theorem dX0_holdsPlace_19 : decode cX0_holdsPlace 19 = .ok (.iand, 1) := by decide +kernel
theorem dX0_holdsPlace_20 : decode cX0_holdsPlace 20 = .ok (.ifCond .ne 5, 3) := by decide +kernel
theorem dX0_holdsPlace_23 : decode cX0_holdsPlace 23 = .ok (.iconst 1, 1) := by decide +kernel
theorem dX0_holdsPlace_24 : decode cX0_holdsPlace 24 = .ok (.ireturn, 1) := by decide +kernel
theorem dX0_holdsPlace_25 : decode cX0_holdsPlace 25 = .ok (.iinc 2 1, 3) := by decide +kernel
theorem dX0_holdsPlace_28 : decode cX0_holdsPlace 28 = .ok (.goto (-26), 3) := by decide +kernel
theorem dX0_holdsPlace_31 : decode cX0_holdsPlace 31 = .ok (.iconst 0, 1) := by decide +kernel
theorem dX0_holdsPlace_32 : decode cX0_holdsPlace 32 = .ok (.ireturn, 1) := by decide +kernel
set_option maxRecDepth 20000 in
theorem ggX0_placesCrossed_X2_way : GoodIn wsX0_placesCrossed wsX2_way := goodIn_r _ [8, 9, 10, 11, 23, 24, 25, 26, 27] (by decide +kernel) (by decide +kernel)
set_option maxRecDepth 20000 in
theorem gX0_placesCrossed_X2_way : GoodIn wsX0_placesCrossed (wsV RX0 70 RX2 yX2_way wsX2_way) := goodIn_app (goodIn_of _ (by decide +kernel)) ggX0_placesCrossed_X2_way
theorem dX0_placesCrossed_0 : decode cX0_placesCrossed 0 = .ok (.iconst 0, 1) := by decide +kernel
theorem dX0_placesCrossed_1 : decode cX0_placesCrossed 1 = .ok (.istore_n 3, 1) := by decide +kernel
theorem dX0_placesCrossed_2 : decode cX0_placesCrossed 2 = .ok (.iconst 0, 1) := by decide +kernel
theorem dX0_placesCrossed_3 : decode cX0_placesCrossed 3 = .ok (.istore 4, 2) := by decide +kernel
theorem dX0_placesCrossed_5 : decode cX0_placesCrossed 5 = .ok (.iload 4, 2) := by decide +kernel
theorem dX0_placesCrossed_7 : decode cX0_placesCrossed 7 = .ok (.aload_n 0, 1) := by decide +kernel
theorem dX0_placesCrossed_8 : decode cX0_placesCrossed 8 = .ok (.getfield 54, 3) := by decide +kernel
theorem dX0_placesCrossed_11 : decode cX0_placesCrossed 11 = .ok (.if_icmp .ge 35, 3) := by decide +kernel
theorem dX0_placesCrossed_14 : decode cX0_placesCrossed 14 = .ok (.aload_n 0, 1) := by decide +kernel
theorem dX0_placesCrossed_15 : decode cX0_placesCrossed 15 = .ok (.getfield 9, 3) := by decide +kernel
theorem dX0_placesCrossed_18 : decode cX0_placesCrossed 18 = .ok (.aload_n 0, 1) := by decide +kernel
theorem dX0_placesCrossed_19 : decode cX0_placesCrossed 19 = .ok (.getfield 19, 3) := by decide +kernel
theorem dX0_placesCrossed_22 : decode cX0_placesCrossed 22 = .ok (.iload 4, 2) := by decide +kernel
theorem dX0_placesCrossed_24 : decode cX0_placesCrossed 24 = .ok (.iaload, 1) := by decide +kernel
theorem dX0_placesCrossed_25 : decode cX0_placesCrossed 25 = .ok (.iload_n 1, 1) := by decide +kernel
theorem dX0_placesCrossed_26 : decode cX0_placesCrossed 26 = .ok (.invokevirtual 70, 3) := by decide +kernel
theorem dX0_placesCrossed_29 : decode cX0_placesCrossed 29 = .ok (.iload_n 2, 1) := by decide +kernel
theorem dX0_placesCrossed_30 : decode cX0_placesCrossed 30 = .ok (.if_icmp .ne 10, 3) := by decide +kernel
theorem dX0_placesCrossed_33 : decode cX0_placesCrossed 33 = .ok (.iload_n 3, 1) := by decide +kernel
theorem dX0_placesCrossed_34 : decode cX0_placesCrossed 34 = .ok (.iconst 1, 1) := by decide +kernel
theorem dX0_placesCrossed_35 : decode cX0_placesCrossed 35 = .ok (.iload 4, 2) := by decide +kernel
theorem dX0_placesCrossed_37 : decode cX0_placesCrossed 37 = .ok (.ishl, 1) := by decide +kernel
theorem dX0_placesCrossed_38 : decode cX0_placesCrossed 38 = .ok (.ior, 1) := by decide +kernel
theorem dX0_placesCrossed_39 : decode cX0_placesCrossed 39 = .ok (.istore_n 3, 1) := by decide +kernel
theorem dX0_placesCrossed_40 : decode cX0_placesCrossed 40 = .ok (.iinc 4 1, 3) := by decide +kernel
theorem dX0_placesCrossed_43 : decode cX0_placesCrossed 43 = .ok (.goto (-38), 3) := by decide +kernel
theorem dX0_placesCrossed_46 : decode cX0_placesCrossed 46 = .ok (.iload_n 3, 1) := by decide +kernel
theorem dX0_placesCrossed_47 : decode cX0_placesCrossed 47 = .ok (.ireturn, 1) := by decide +kernel
set_option maxRecDepth 20000 in
theorem ggX0_placesWith_X3_has : GoodIn wsX0_placesWith wsX3_has := goodIn_r _ [5] (by decide +kernel) (by decide +kernel)
set_option maxRecDepth 20000 in
theorem gX0_placesWith_X3_has_n75 : GoodIn wsX0_placesWith (wsX3_has) := ggX0_placesWith_X3_has
theorem dX0_placesWith_0 : decode cX0_placesWith 0 = .ok (.iconst 0, 1) := by decide +kernel
theorem dX0_placesWith_1 : decode cX0_placesWith 1 = .ok (.istore_n 2, 1) := by decide +kernel
theorem dX0_placesWith_2 : decode cX0_placesWith 2 = .ok (.iconst 0, 1) := by decide +kernel
theorem dX0_placesWith_3 : decode cX0_placesWith 3 = .ok (.istore_n 3, 1) := by decide +kernel
theorem dX0_placesWith_4 : decode cX0_placesWith 4 = .ok (.iload_n 3, 1) := by decide +kernel
theorem dX0_placesWith_5 : decode cX0_placesWith 5 = .ok (.aload_n 0, 1) := by decide +kernel
theorem dX0_placesWith_6 : decode cX0_placesWith 6 = .ok (.getfield 54, 3) := by decide +kernel
theorem dX0_placesWith_9 : decode cX0_placesWith 9 = .ok (.if_icmp .ge 28, 3) := by decide +kernel
theorem dX0_placesWith_12 : decode cX0_placesWith 12 = .ok (.aload_n 0, 1) := by decide +kernel
theorem dX0_placesWith_13 : decode cX0_placesWith 13 = .ok (.getfield 19, 3) := by decide +kernel
theorem dX0_placesWith_16 : decode cX0_placesWith 16 = .ok (.iload_n 3, 1) := by decide +kernel
theorem dX0_placesWith_17 : decode cX0_placesWith 17 = .ok (.iaload, 1) := by decide +kernel
theorem dX0_placesWith_18 : decode cX0_placesWith 18 = .ok (.iload_n 1, 1) := by decide +kernel
theorem dX0_placesWith_19 : decode cX0_placesWith 19 = .ok (.invokestatic 75, 3) := by decide +kernel
theorem dX0_placesWith_22 : decode cX0_placesWith 22 = .ok (.ifCond .eq 9, 3) := by decide +kernel
theorem dX0_placesWith_25 : decode cX0_placesWith 25 = .ok (.iload_n 2, 1) := by decide +kernel
theorem dX0_placesWith_26 : decode cX0_placesWith 26 = .ok (.iconst 1, 1) := by decide +kernel
theorem dX0_placesWith_27 : decode cX0_placesWith 27 = .ok (.iload_n 3, 1) := by decide +kernel
theorem dX0_placesWith_28 : decode cX0_placesWith 28 = .ok (.ishl, 1) := by decide +kernel
theorem dX0_placesWith_29 : decode cX0_placesWith 29 = .ok (.ior, 1) := by decide +kernel
theorem dX0_placesWith_30 : decode cX0_placesWith 30 = .ok (.istore_n 2, 1) := by decide +kernel
theorem dX0_placesWith_31 : decode cX0_placesWith 31 = .ok (.iinc 3 1, 3) := by decide +kernel
theorem dX0_placesWith_34 : decode cX0_placesWith 34 = .ok (.goto (-30), 3) := by decide +kernel
theorem dX0_placesWith_37 : decode cX0_placesWith 37 = .ok (.iload_n 2, 1) := by decide +kernel
theorem dX0_placesWith_38 : decode cX0_placesWith 38 = .ok (.ireturn, 1) := by decide +kernel
theorem dX0_regionOf_0 : decode cX0_regionOf 0 = .ok (.aload_n 0, 1) := by decide +kernel
theorem dX0_regionOf_1 : decode cX0_regionOf 1 = .ok (.getfield 19, 3) := by decide +kernel
theorem dX0_regionOf_4 : decode cX0_regionOf 4 = .ok (.iload_n 1, 1) := by decide +kernel
theorem dX0_regionOf_5 : decode cX0_regionOf 5 = .ok (.iaload, 1) := by decide +kernel
theorem dX0_regionOf_6 : decode cX0_regionOf 6 = .ok (.ireturn, 1) := by decide +kernel
set_option maxRecDepth 20000 in
theorem ggX0_canFire_X2_beginning : GoodIn wsX0_canFire wsX2_beginning := goodIn_r _ [8, 9, 21, 22, 23, 24, 25] (by decide +kernel) (by decide +kernel)
set_option maxRecDepth 20000 in
theorem gX0_canFire_X2_beginning : GoodIn wsX0_canFire (wsV RX0 79 RX2 yX2_beginning wsX2_beginning) := goodIn_app (goodIn_of _ (by decide +kernel)) ggX0_canFire_X2_beginning
theorem dX0_canFire_0 : decode cX0_canFire 0 = .ok (.aload_n 0, 1) := by decide +kernel
theorem dX0_canFire_1 : decode cX0_canFire 1 = .ok (.getfield 9, 3) := by decide +kernel
theorem dX0_canFire_4 : decode cX0_canFire 4 = .ok (.iload_n 1, 1) := by decide +kernel
theorem dX0_canFire_5 : decode cX0_canFire 5 = .ok (.invokevirtual 79, 3) := by decide +kernel
theorem dX0_canFire_8 : decode cX0_canFire 8 = .ok (.ifCond .eq 35, 3) := by decide +kernel
theorem dX0_canFire_11 : decode cX0_canFire 11 = .ok (.iload_n 2, 1) := by decide +kernel
theorem dX0_canFire_12 : decode cX0_canFire 12 = .ok (.aload_n 0, 1) := by decide +kernel
theorem dX0_canFire_13 : decode cX0_canFire 13 = .ok (.getfield 23, 3) := by decide +kernel
theorem dX0_canFire_16 : decode cX0_canFire 16 = .ok (.iload_n 1, 1) := by decide +kernel
theorem dX0_canFire_17 : decode cX0_canFire 17 = .ok (.iaload, 1) := by decide +kernel
theorem dX0_canFire_18 : decode cX0_canFire 18 = .ok (.iand, 1) := by decide +kernel
theorem dX0_canFire_19 : decode cX0_canFire 19 = .ok (.aload_n 0, 1) := by decide +kernel
theorem dX0_canFire_20 : decode cX0_canFire 20 = .ok (.getfield 23, 3) := by decide +kernel
theorem dX0_canFire_23 : decode cX0_canFire 23 = .ok (.iload_n 1, 1) := by decide +kernel
theorem dX0_canFire_24 : decode cX0_canFire 24 = .ok (.iaload, 1) := by decide +kernel
theorem dX0_canFire_25 : decode cX0_canFire 25 = .ok (.if_icmp .ne 18, 3) := by decide +kernel
theorem dX0_canFire_28 : decode cX0_canFire 28 = .ok (.iload_n 2, 1) := by decide +kernel
theorem dX0_canFire_29 : decode cX0_canFire 29 = .ok (.aload_n 0, 1) := by decide +kernel
theorem dX0_canFire_30 : decode cX0_canFire 30 = .ok (.getfield 26, 3) := by decide +kernel
theorem dX0_canFire_33 : decode cX0_canFire 33 = .ok (.iload_n 1, 1) := by decide +kernel
theorem dX0_canFire_34 : decode cX0_canFire 34 = .ok (.iaload, 1) := by decide +kernel
theorem dX0_canFire_35 : decode cX0_canFire 35 = .ok (.iand, 1) := by decide +kernel
theorem dX0_canFire_36 : decode cX0_canFire 36 = .ok (.ifCond .ne 7, 3) := by decide +kernel
theorem dX0_canFire_39 : decode cX0_canFire 39 = .ok (.iconst 1, 1) := by decide +kernel
theorem dX0_canFire_40 : decode cX0_canFire 40 = .ok (.goto 4, 3) := by decide +kernel
theorem dX0_canFire_43 : decode cX0_canFire 43 = .ok (.iconst 0, 1) := by decide +kernel
theorem dX0_canFire_44 : decode cX0_canFire 44 = .ok (.ireturn, 1) := by decide +kernel
theorem dX0_behind_0 : decode cX0_behind 0 = .ok (.iload_n 2, 1) := by decide +kernel
theorem dX0_behind_1 : decode cX0_behind 1 = .ok (.aload_n 0, 1) := by decide +kernel
theorem dX0_behind_2 : decode cX0_behind 2 = .ok (.getfield 23, 3) := by decide +kernel
theorem dX0_behind_5 : decode cX0_behind 5 = .ok (.iload_n 1, 1) := by decide +kernel
theorem dX0_behind_6 : decode cX0_behind 6 = .ok (.iaload, 1) := by decide +kernel
theorem dX0_behind_7 : decode cX0_behind 7 = .ok (.iconst (-1), 1) := by decide +kernel
theorem dX0_behind_8 : decode cX0_behind 8 = .ok (.ixor, 1) := by decide +kernel
theorem dX0_behind_9 : decode cX0_behind 9 = .ok (.iand, 1) := by decide +kernel
theorem dX0_behind_10 : decode cX0_behind 10 = .ok (.aload_n 0, 1) := by decide +kernel
theorem dX0_behind_11 : decode cX0_behind 11 = .ok (.getfield 26, 3) := by decide +kernel
theorem dX0_behind_14 : decode cX0_behind 14 = .ok (.iload_n 1, 1) := by decide +kernel
theorem dX0_behind_15 : decode cX0_behind 15 = .ok (.iaload, 1) := by decide +kernel
theorem dX0_behind_16 : decode cX0_behind 16 = .ok (.ior, 1) := by decide +kernel
theorem dX0_behind_17 : decode cX0_behind 17 = .ok (.ireturn, 1) := by decide +kernel
set_option maxRecDepth 20000 in
theorem ggX0_markingsFound_X0_findMarkings : GoodIn wsX0_markingsFound wsX0_findMarkings := goodIn_r _ [6, 7, 8, 1, 9, 10, 11, 5, 12, 13, 14, 15, 16, 17, 18, 19, 20, 21, 22, 23, 24, 25, 26, 27, 28, 29, 30, 31, 32, 33, 34, 35, 36, 37, 38, 39, 40, 41, 42, 43, 44, 45] (by decide +kernel) (by decide +kernel)
set_option maxRecDepth 20000 in
theorem gX0_markingsFound_X0_findMarkings : GoodIn wsX0_markingsFound (wsV RX0 82 RX0 yX0_findMarkings wsX0_findMarkings) := goodIn_app (goodIn_of _ (by decide +kernel)) ggX0_markingsFound_X0_findMarkings
theorem dX0_markingsFound_0 : decode cX0_markingsFound 0 = .ok (.aload_n 0, 1) := by decide +kernel
theorem dX0_markingsFound_1 : decode cX0_markingsFound 1 = .ok (.getfield 47, 3) := by decide +kernel
theorem dX0_markingsFound_4 : decode cX0_markingsFound 4 = .ok (.ifCond .ne 7, 3) := by decide +kernel
theorem dX0_markingsFound_7 : decode cX0_markingsFound 7 = .ok (.aload_n 0, 1) := by decide +kernel
theorem dX0_markingsFound_8 : decode cX0_markingsFound 8 = .ok (.invokevirtual 82, 3) := by decide +kernel
theorem dX0_markingsFound_11 : decode cX0_markingsFound 11 = .ok (.aload_n 0, 1) := by decide +kernel
theorem dX0_markingsFound_12 : decode cX0_markingsFound 12 = .ok (.getfield 47, 3) := by decide +kernel
theorem dX0_markingsFound_15 : decode cX0_markingsFound 15 = .ok (.ireturn, 1) := by decide +kernel
set_option maxRecDepth 20000 in
theorem ggX0_findMarkings_X0_canFire : GoodIn wsX0_findMarkings wsX0_canFire := goodIn_r _ [8, 9, 10, 11, 12, 13, 14, 15, 16, 17, 26, 27, 28, 29, 30, 31, 32, 33, 34, 35, 36, 37, 38, 39, 40, 41] (by decide +kernel) (by decide +kernel)
set_option maxRecDepth 20000 in
theorem gX0_findMarkings_X0_canFire : GoodIn wsX0_findMarkings (wsV RX0 85 RX0 yX0_canFire wsX0_canFire) := goodIn_app (goodIn_of _ (by decide +kernel)) ggX0_findMarkings_X0_canFire
set_option maxRecDepth 20000 in
theorem ggX0_findMarkings_X0_behind : GoodIn wsX0_findMarkings wsX0_behind := goodIn_r _ [21, 10, 11, 26, 27, 28, 29, 30, 31, 32, 33, 34, 35, 36] (by decide +kernel) (by decide +kernel)
set_option maxRecDepth 20000 in
theorem gX0_findMarkings_X0_behind : GoodIn wsX0_findMarkings (wsV RX0 88 RX0 yX0_behind wsX0_behind) := goodIn_app (goodIn_of _ (by decide +kernel)) ggX0_findMarkings_X0_behind
set_option maxRecDepth 20000 in
theorem ggX0_findMarkings_X0_keepNew : GoodIn wsX0_findMarkings wsX0_keepNew := goodIn_r _ [25, 3, 1, 26, 27, 28, 29, 30, 31, 32, 33, 34, 35, 36] (by decide +kernel) (by decide +kernel)
set_option maxRecDepth 20000 in
theorem gX0_findMarkings_X0_keepNew : GoodIn wsX0_findMarkings (wsV RX0 91 RX0 yX0_keepNew wsX0_keepNew) := goodIn_app (goodIn_of _ (by decide +kernel)) ggX0_findMarkings_X0_keepNew
theorem dX0_findMarkings_0 : decode cX0_findMarkings 0 = .ok (.aload_n 0, 1) := by decide +kernel
theorem dX0_findMarkings_1 : decode cX0_findMarkings 1 = .ok (.getfield 29, 3) := by decide +kernel
theorem dX0_findMarkings_4 : decode cX0_findMarkings 4 = .ok (.iconst 0, 1) := by decide +kernel
theorem dX0_findMarkings_5 : decode cX0_findMarkings 5 = .ok (.aload_n 0, 1) := by decide +kernel
theorem dX0_findMarkings_6 : decode cX0_findMarkings 6 = .ok (.getfield 43, 3) := by decide +kernel
theorem dX0_findMarkings_9 : decode cX0_findMarkings 9 = .ok (.iastore, 1) := by decide +kernel
theorem dX0_findMarkings_10 : decode cX0_findMarkings 10 = .ok (.aload_n 0, 1) := by decide +kernel
theorem dX0_findMarkings_11 : decode cX0_findMarkings 11 = .ok (.iconst 1, 1) := by decide +kernel
theorem dX0_findMarkings_12 : decode cX0_findMarkings 12 = .ok (.putfield 47, 3) := by decide +kernel
theorem dX0_findMarkings_15 : decode cX0_findMarkings 15 = .ok (.iconst 0, 1) := by decide +kernel
theorem dX0_findMarkings_16 : decode cX0_findMarkings 16 = .ok (.istore_n 1, 1) := by decide +kernel
theorem dX0_findMarkings_17 : decode cX0_findMarkings 17 = .ok (.iload_n 1, 1) := by decide +kernel
theorem dX0_findMarkings_18 : decode cX0_findMarkings 18 = .ok (.sipush 200, 3) := by decide +kernel
theorem dX0_findMarkings_21 : decode cX0_findMarkings 21 = .ok (.if_icmp .ge 60, 3) := by decide +kernel
theorem dX0_findMarkings_24 : decode cX0_findMarkings 24 = .ok (.iload_n 1, 1) := by decide +kernel
theorem dX0_findMarkings_25 : decode cX0_findMarkings 25 = .ok (.aload_n 0, 1) := by decide +kernel
theorem dX0_findMarkings_26 : decode cX0_findMarkings 26 = .ok (.getfield 47, 3) := by decide +kernel
theorem dX0_findMarkings_29 : decode cX0_findMarkings 29 = .ok (.if_icmp .ge 52, 3) := by decide +kernel
theorem dX0_findMarkings_32 : decode cX0_findMarkings 32 = .ok (.iconst 0, 1) := by decide +kernel
theorem dX0_findMarkings_33 : decode cX0_findMarkings 33 = .ok (.istore_n 2, 1) := by decide +kernel
theorem dX0_findMarkings_34 : decode cX0_findMarkings 34 = .ok (.iload_n 2, 1) := by decide +kernel
theorem dX0_findMarkings_35 : decode cX0_findMarkings 35 = .ok (.bipush 6, 2) := by decide +kernel
theorem dX0_findMarkings_37 : decode cX0_findMarkings 37 = .ok (.if_icmp .ge 38, 3) := by decide +kernel
theorem dX0_findMarkings_40 : decode cX0_findMarkings 40 = .ok (.aload_n 0, 1) := by decide +kernel
theorem dX0_findMarkings_41 : decode cX0_findMarkings 41 = .ok (.iload_n 2, 1) := by decide +kernel
theorem dX0_findMarkings_42 : decode cX0_findMarkings 42 = .ok (.aload_n 0, 1) := by decide +kernel
theorem dX0_findMarkings_43 : decode cX0_findMarkings 43 = .ok (.getfield 29, 3) := by decide +kernel
theorem dX0_findMarkings_46 : decode cX0_findMarkings 46 = .ok (.iload_n 1, 1) := by decide +kernel
theorem dX0_findMarkings_47 : decode cX0_findMarkings 47 = .ok (.iaload, 1) := by decide +kernel
theorem dX0_findMarkings_48 : decode cX0_findMarkings 48 = .ok (.invokevirtual 85, 3) := by decide +kernel
theorem dX0_findMarkings_51 : decode cX0_findMarkings 51 = .ok (.ifCond .eq 18, 3) := by decide +kernel
theorem dX0_findMarkings_54 : decode cX0_findMarkings 54 = .ok (.aload_n 0, 1) := by decide +kernel
theorem dX0_findMarkings_55 : decode cX0_findMarkings 55 = .ok (.aload_n 0, 1) := by decide +kernel
theorem dX0_findMarkings_56 : decode cX0_findMarkings 56 = .ok (.iload_n 2, 1) := by decide +kernel
theorem dX0_findMarkings_57 : decode cX0_findMarkings 57 = .ok (.aload_n 0, 1) := by decide +kernel
theorem dX0_findMarkings_58 : decode cX0_findMarkings 58 = .ok (.getfield 29, 3) := by decide +kernel
theorem dX0_findMarkings_61 : decode cX0_findMarkings 61 = .ok (.iload_n 1, 1) := by decide +kernel
theorem dX0_findMarkings_62 : decode cX0_findMarkings 62 = .ok (.iaload, 1) := by decide +kernel
theorem dX0_findMarkings_63 : decode cX0_findMarkings 63 = .ok (.invokevirtual 88, 3) := by decide +kernel
theorem dX0_findMarkings_66 : decode cX0_findMarkings 66 = .ok (.invokevirtual 91, 3) := by decide +kernel
theorem dX0_findMarkings_69 : decode cX0_findMarkings 69 = .ok (.iinc 2 1, 3) := by decide +kernel
theorem dX0_findMarkings_72 : decode cX0_findMarkings 72 = .ok (.goto (-38), 3) := by decide +kernel
theorem dX0_findMarkings_75 : decode cX0_findMarkings 75 = .ok (.iinc 1 1, 3) := by decide +kernel
theorem dX0_findMarkings_78 : decode cX0_findMarkings 78 = .ok (.goto (-61), 3) := by decide +kernel
theorem dX0_findMarkings_81 : decode cX0_findMarkings 81 = .ok (.return_, 1) := by decide +kernel
theorem dX0_keepNew_0 : decode cX0_keepNew 0 = .ok (.aload_n 0, 1) := by decide +kernel
theorem dX0_keepNew_1 : decode cX0_keepNew 1 = .ok (.getfield 47, 3) := by decide +kernel
theorem dX0_keepNew_4 : decode cX0_keepNew 4 = .ok (.sipush 200, 3) := by decide +kernel
theorem dX0_keepNew_7 : decode cX0_keepNew 7 = .ok (.if_icmp .lt 4, 3) := by decide +kernel
theorem dX0_keepNew_10 : decode cX0_keepNew 10 = .ok (.return_, 1) := by decide +kernel
theorem dX0_keepNew_11 : decode cX0_keepNew 11 = .ok (.iconst 0, 1) := by decide +kernel
theorem dX0_keepNew_12 : decode cX0_keepNew 12 = .ok (.istore_n 2, 1) := by decide +kernel
theorem dX0_keepNew_13 : decode cX0_keepNew 13 = .ok (.iload_n 2, 1) := by decide +kernel
theorem dX0_keepNew_14 : decode cX0_keepNew 14 = .ok (.aload_n 0, 1) := by decide +kernel
theorem dX0_keepNew_15 : decode cX0_keepNew 15 = .ok (.getfield 47, 3) := by decide +kernel
theorem dX0_keepNew_18 : decode cX0_keepNew 18 = .ok (.if_icmp .ge 20, 3) := by decide +kernel
theorem dX0_keepNew_21 : decode cX0_keepNew 21 = .ok (.aload_n 0, 1) := by decide +kernel
theorem dX0_keepNew_22 : decode cX0_keepNew 22 = .ok (.getfield 29, 3) := by decide +kernel
theorem dX0_keepNew_25 : decode cX0_keepNew 25 = .ok (.iload_n 2, 1) := by decide +kernel
theorem dX0_keepNew_26 : decode cX0_keepNew 26 = .ok (.iaload, 1) := by decide +kernel
theorem dX0_keepNew_27 : decode cX0_keepNew 27 = .ok (.iload_n 1, 1) := by decide +kernel
theorem dX0_keepNew_28 : decode cX0_keepNew 28 = .ok (.if_icmp .ne 4, 3) := by decide +kernel
theorem dX0_keepNew_31 : decode cX0_keepNew 31 = .ok (.return_, 1) := by decide +kernel
theorem dX0_keepNew_32 : decode cX0_keepNew 32 = .ok (.iinc 2 1, 3) := by decide +kernel
theorem dX0_keepNew_35 : decode cX0_keepNew 35 = .ok (.goto (-22), 3) := by decide +kernel
theorem dX0_keepNew_38 : decode cX0_keepNew 38 = .ok (.aload_n 0, 1) := by decide +kernel
theorem dX0_keepNew_39 : decode cX0_keepNew 39 = .ok (.getfield 29, 3) := by decide +kernel
theorem dX0_keepNew_42 : decode cX0_keepNew 42 = .ok (.aload_n 0, 1) := by decide +kernel
theorem dX0_keepNew_43 : decode cX0_keepNew 43 = .ok (.getfield 47, 3) := by decide +kernel
theorem dX0_keepNew_46 : decode cX0_keepNew 46 = .ok (.iload_n 1, 1) := by decide +kernel
theorem dX0_keepNew_47 : decode cX0_keepNew 47 = .ok (.iastore, 1) := by decide +kernel
theorem dX0_keepNew_48 : decode cX0_keepNew 48 = .ok (.aload_n 0, 1) := by decide +kernel
theorem dX0_keepNew_49 : decode cX0_keepNew 49 = .ok (.dup, 1) := by decide +kernel
theorem dX0_keepNew_50 : decode cX0_keepNew 50 = .ok (.getfield 47, 3) := by decide +kernel
theorem dX0_keepNew_53 : decode cX0_keepNew 53 = .ok (.iconst 1, 1) := by decide +kernel
theorem dX0_keepNew_54 : decode cX0_keepNew 54 = .ok (.iadd, 1) := by decide +kernel
theorem dX0_keepNew_55 : decode cX0_keepNew 55 = .ok (.putfield 47, 3) := by decide +kernel
theorem dX0_keepNew_58 : decode cX0_keepNew 58 = .ok (.return_, 1) := by decide +kernel
set_option maxRecDepth 20000 in
theorem ggX0_behavesLikeSystem_X2_reachedStates : GoodIn wsX0_behavesLikeSystem wsX2_reachedStates := goodIn_r _ [6, 7, 8, 9, 10, 5, 11, 12, 13, 14, 15, 53, 54, 55, 56, 57] (by decide +kernel) (by decide +kernel)
set_option maxRecDepth 20000 in
theorem gX0_behavesLikeSystem_X2_reachedStates : GoodIn wsX0_behavesLikeSystem (wsV RX0 95 RX2 yX2_reachedStates wsX2_reachedStates) := goodIn_app (goodIn_of _ (by decide +kernel)) ggX0_behavesLikeSystem_X2_reachedStates
set_option maxRecDepth 20000 in
theorem ggX0_behavesLikeSystem_X3_has : GoodIn wsX0_behavesLikeSystem wsX3_has := goodIn_r _ [15] (by decide +kernel) (by decide +kernel)
set_option maxRecDepth 20000 in
theorem gX0_behavesLikeSystem_X3_has_n75 : GoodIn wsX0_behavesLikeSystem (wsX3_has) := ggX0_behavesLikeSystem_X3_has
set_option maxRecDepth 20000 in
theorem ggX0_behavesLikeSystem_X0_isMatched : GoodIn wsX0_behavesLikeSystem wsX0_isMatched := goodIn_r _ [20, 1, 21, 22, 23, 19, 24, 25, 26, 13, 14, 15, 27, 28, 29, 5, 30, 12, 31, 32, 33, 34, 35, 36, 37, 38, 39, 40, 41, 42, 43, 44, 45, 46, 47, 48, 49, 50, 51, 52, 53, 54, 55, 56, 57] (by decide +kernel) (by decide +kernel)
set_option maxRecDepth 20000 in
theorem gX0_behavesLikeSystem_X0_isMatched : GoodIn wsX0_behavesLikeSystem (wsV RX0 101 RX0 yX0_isMatched wsX0_isMatched) := goodIn_app (goodIn_of _ (by decide +kernel)) ggX0_behavesLikeSystem_X0_isMatched
theorem dX0_behavesLikeSystem_0 : decode cX0_behavesLikeSystem 0 = .ok (.aload_n 0, 1) := by decide +kernel
theorem dX0_behavesLikeSystem_1 : decode cX0_behavesLikeSystem 1 = .ok (.getfield 9, 3) := by decide +kernel
theorem dX0_behavesLikeSystem_4 : decode cX0_behavesLikeSystem 4 = .ok (.invokevirtual 95, 3) := by decide +kernel
theorem dX0_behavesLikeSystem_7 : decode cX0_behavesLikeSystem 7 = .ok (.istore_n 1, 1) := by decide +kernel
theorem dX0_behavesLikeSystem_8 : decode cX0_behavesLikeSystem 8 = .ok (.iconst 0, 1) := by decide +kernel
theorem dX0_behavesLikeSystem_9 : decode cX0_behavesLikeSystem 9 = .ok (.istore_n 2, 1) := by decide +kernel
theorem dX0_behavesLikeSystem_10 : decode cX0_behavesLikeSystem 10 = .ok (.iload_n 2, 1) := by decide +kernel
theorem dX0_behavesLikeSystem_11 : decode cX0_behavesLikeSystem 11 = .ok (.aload_n 0, 1) := by decide +kernel
theorem dX0_behavesLikeSystem_12 : decode cX0_behavesLikeSystem 12 = .ok (.getfield 9, 3) := by decide +kernel
theorem dX0_behavesLikeSystem_15 : decode cX0_behavesLikeSystem 15 = .ok (.getfield 98, 3) := by decide +kernel
theorem dX0_behavesLikeSystem_18 : decode cX0_behavesLikeSystem 18 = .ok (.if_icmp .ge 28, 3) := by decide +kernel
theorem dX0_behavesLikeSystem_21 : decode cX0_behavesLikeSystem 21 = .ok (.iload_n 1, 1) := by decide +kernel
theorem dX0_behavesLikeSystem_22 : decode cX0_behavesLikeSystem 22 = .ok (.iload_n 2, 1) := by decide +kernel
theorem dX0_behavesLikeSystem_23 : decode cX0_behavesLikeSystem 23 = .ok (.invokestatic 75, 3) := by decide +kernel
theorem dX0_behavesLikeSystem_26 : decode cX0_behavesLikeSystem 26 = .ok (.ifCond .eq 14, 3) := by decide +kernel
theorem dX0_behavesLikeSystem_29 : decode cX0_behavesLikeSystem 29 = .ok (.aload_n 0, 1) := by decide +kernel
theorem dX0_behavesLikeSystem_30 : decode cX0_behavesLikeSystem 30 = .ok (.iload_n 2, 1) := by decide +kernel
theorem dX0_behavesLikeSystem_31 : decode cX0_behavesLikeSystem 31 = .ok (.iload_n 1, 1) := by decide +kernel
theorem dX0_behavesLikeSystem_32 : decode cX0_behavesLikeSystem 32 = .ok (.invokevirtual 101, 3) := by decide +kernel
theorem dX0_behavesLikeSystem_35 : decode cX0_behavesLikeSystem 35 = .ok (.ifCond .ne 5, 3) := by decide +kernel
theorem dX0_behavesLikeSystem_38 : decode cX0_behavesLikeSystem 38 = .ok (.iconst 0, 1) := by decide +kernel
theorem dX0_behavesLikeSystem_39 : decode cX0_behavesLikeSystem 39 = .ok (.ireturn, 1) := by decide +kernel
theorem dX0_behavesLikeSystem_40 : decode cX0_behavesLikeSystem 40 = .ok (.iinc 2 1, 3) := by decide +kernel
theorem dX0_behavesLikeSystem_43 : decode cX0_behavesLikeSystem 43 = .ok (.goto (-33), 3) := by decide +kernel
theorem dX0_behavesLikeSystem_46 : decode cX0_behavesLikeSystem 46 = .ok (.iconst 1, 1) := by decide +kernel
theorem dX0_behavesLikeSystem_47 : decode cX0_behavesLikeSystem 47 = .ok (.ireturn, 1) := by decide +kernel
set_option maxRecDepth 20000 in
theorem ggX0_isMatched_X0_placesWith : GoodIn wsX0_isMatched wsX0_placesWith := goodIn_r _ [6, 7, 8, 9, 10, 11, 29, 30, 31, 32, 33, 34, 35, 36, 37, 38, 39] (by decide +kernel) (by decide +kernel)
set_option maxRecDepth 20000 in
theorem gX0_isMatched_X0_placesWith : GoodIn wsX0_isMatched (wsV RX0 39 RX0 yX0_placesWith wsX0_placesWith) := goodIn_app (goodIn_of _ (by decide +kernel)) ggX0_isMatched_X0_placesWith
set_option maxRecDepth 20000 in
theorem ggX0_isMatched_X2_end : GoodIn wsX0_isMatched wsX2_end := goodIn_r _ [16, 17, 40, 41, 42, 43, 44] (by decide +kernel) (by decide +kernel)
set_option maxRecDepth 20000 in
theorem gX0_isMatched_X2_end : GoodIn wsX0_isMatched (wsV RX0 104 RX2 yX2_end wsX2_end) := goodIn_app (goodIn_of _ (by decide +kernel)) ggX0_isMatched_X2_end
set_option maxRecDepth 20000 in
theorem ggX0_isMatched_X0_canFire : GoodIn wsX0_isMatched wsX0_canFire := goodIn_r _ [21, 1, 22, 23, 24, 25, 26, 15, 27, 28, 29, 30, 31, 32, 33, 34, 35, 36, 37, 38, 39, 40, 41, 42, 43, 44] (by decide +kernel) (by decide +kernel)
set_option maxRecDepth 20000 in
theorem gX0_isMatched_X0_canFire : GoodIn wsX0_isMatched (wsV RX0 85 RX0 yX0_canFire wsX0_canFire) := goodIn_app (goodIn_of _ (by decide +kernel)) ggX0_isMatched_X0_canFire
set_option maxRecDepth 20000 in
theorem ggX0_isMatched_X3_has : GoodIn wsX0_isMatched wsX3_has := goodIn_r _ [11] (by decide +kernel) (by decide +kernel)
set_option maxRecDepth 20000 in
theorem gX0_isMatched_X3_has_n75 : GoodIn wsX0_isMatched (wsX3_has) := ggX0_isMatched_X3_has
theorem dX0_isMatched_0 : decode cX0_isMatched 0 = .ok (.aload_n 0, 1) := by decide +kernel
theorem dX0_isMatched_1 : decode cX0_isMatched 1 = .ok (.iload_n 1, 1) := by decide +kernel
theorem dX0_isMatched_2 : decode cX0_isMatched 2 = .ok (.invokevirtual 39, 3) := by decide +kernel
theorem dX0_isMatched_5 : decode cX0_isMatched 5 = .ok (.istore_n 3, 1) := by decide +kernel
theorem dX0_isMatched_6 : decode cX0_isMatched 6 = .ok (.iconst 0, 1) := by decide +kernel
theorem dX0_isMatched_7 : decode cX0_isMatched 7 = .ok (.istore 4, 2) := by decide +kernel
theorem dX0_isMatched_9 : decode cX0_isMatched 9 = .ok (.iload 4, 2) := by decide +kernel
theorem dX0_isMatched_11 : decode cX0_isMatched 11 = .ok (.bipush 6, 2) := by decide +kernel
theorem dX0_isMatched_13 : decode cX0_isMatched 13 = .ok (.if_icmp .ge 44, 3) := by decide +kernel
theorem dX0_isMatched_16 : decode cX0_isMatched 16 = .ok (.aload_n 0, 1) := by decide +kernel
theorem dX0_isMatched_17 : decode cX0_isMatched 17 = .ok (.getfield 9, 3) := by decide +kernel
theorem dX0_isMatched_20 : decode cX0_isMatched 20 = .ok (.iload_n 1, 1) := by decide +kernel
theorem dX0_isMatched_21 : decode cX0_isMatched 21 = .ok (.iload 4, 2) := by decide +kernel
theorem dX0_isMatched_23 : decode cX0_isMatched 23 = .ok (.invokevirtual 104, 3) := by decide +kernel
theorem dX0_isMatched_26 : decode cX0_isMatched 26 = .ok (.iconst (-1), 1) := by decide +kernel
theorem dX0_isMatched_27 : decode cX0_isMatched 27 = .ok (.if_icmp .eq 7, 3) := by decide +kernel
theorem dX0_isMatched_30 : decode cX0_isMatched 30 = .ok (.iconst 1, 1) := by decide +kernel
theorem dX0_isMatched_31 : decode cX0_isMatched 31 = .ok (.goto 4, 3) := by decide +kernel
theorem dX0_isMatched_34 : decode cX0_isMatched 34 = .ok (.iconst 0, 1) := by decide +kernel
theorem dX0_isMatched_35 : decode cX0_isMatched 35 = .ok (.istore 5, 2) := by decide +kernel
theorem dX0_isMatched_37 : decode cX0_isMatched 37 = .ok (.aload_n 0, 1) := by decide +kernel
theorem dX0_isMatched_38 : decode cX0_isMatched 38 = .ok (.iload 4, 2) := by decide +kernel
theorem dX0_isMatched_40 : decode cX0_isMatched 40 = .ok (.iload_n 3, 1) := by decide +kernel
theorem dX0_isMatched_41 : decode cX0_isMatched 41 = .ok (.invokevirtual 85, 3) := by decide +kernel
theorem dX0_isMatched_44 : decode cX0_isMatched 44 = .ok (.iload 5, 2) := by decide +kernel
theorem dX0_isMatched_46 : decode cX0_isMatched 46 = .ok (.if_icmp .eq 5, 3) := by decide +kernel
theorem dX0_isMatched_49 : decode cX0_isMatched 49 = .ok (.iconst 0, 1) := by decide +kernel
theorem dX0_isMatched_50 : decode cX0_isMatched 50 = .ok (.ireturn, 1) := by decide +kernel
theorem dX0_isMatched_51 : decode cX0_isMatched 51 = .ok (.iinc 4 1, 3) := by decide +kernel
theorem dX0_isMatched_54 : decode cX0_isMatched 54 = .ok (.goto (-45), 3) := by decide +kernel
theorem dX0_isMatched_57 : decode cX0_isMatched 57 = .ok (.iconst 0, 1) := by decide +kernel
theorem dX0_isMatched_58 : decode cX0_isMatched 58 = .ok (.istore 4, 2) := by decide +kernel
theorem dX0_isMatched_60 : decode cX0_isMatched 60 = .ok (.iload 4, 2) := by decide +kernel
theorem dX0_isMatched_62 : decode cX0_isMatched 62 = .ok (.iload_n 1, 1) := by decide +kernel
theorem dX0_isMatched_63 : decode cX0_isMatched 63 = .ok (.if_icmp .ge 30, 3) := by decide +kernel
theorem dX0_isMatched_66 : decode cX0_isMatched 66 = .ok (.iload_n 2, 1) := by decide +kernel
theorem dX0_isMatched_67 : decode cX0_isMatched 67 = .ok (.iload 4, 2) := by decide +kernel
theorem dX0_isMatched_69 : decode cX0_isMatched 69 = .ok (.invokestatic 75, 3) := by decide +kernel
theorem dX0_isMatched_72 : decode cX0_isMatched 72 = .ok (.ifCond .eq 15, 3) := by decide +kernel
theorem dX0_isMatched_75 : decode cX0_isMatched 75 = .ok (.aload_n 0, 1) := by decide +kernel
theorem dX0_isMatched_76 : decode cX0_isMatched 76 = .ok (.iload 4, 2) := by decide +kernel
theorem dX0_isMatched_78 : decode cX0_isMatched 78 = .ok (.invokevirtual 39, 3) := by decide +kernel
theorem dX0_isMatched_81 : decode cX0_isMatched 81 = .ok (.iload_n 3, 1) := by decide +kernel
theorem dX0_isMatched_82 : decode cX0_isMatched 82 = .ok (.if_icmp .ne 5, 3) := by decide +kernel
theorem dX0_isMatched_85 : decode cX0_isMatched 85 = .ok (.iconst 0, 1) := by decide +kernel
theorem dX0_isMatched_86 : decode cX0_isMatched 86 = .ok (.ireturn, 1) := by decide +kernel
theorem dX0_isMatched_87 : decode cX0_isMatched 87 = .ok (.iinc 4 1, 3) := by decide +kernel
theorem dX0_isMatched_90 : decode cX0_isMatched 90 = .ok (.goto (-30), 3) := by decide +kernel
theorem dX0_isMatched_93 : decode cX0_isMatched 93 = .ok (.iconst 1, 1) := by decide +kernel
theorem dX0_isMatched_94 : decode cX0_isMatched 94 = .ok (.ireturn, 1) := by decide +kernel
theorem dX1_init_0 : decode cX1_init 0 = .ok (.aload_n 0, 1) := by decide +kernel
theorem dX1_init_1 : decode cX1_init 1 = .ok (.invokespecial 3, 3) := by decide +kernel
theorem dX1_init_4 : decode cX1_init 4 = .ok (.aload_n 0, 1) := by decide +kernel
theorem dX1_init_5 : decode cX1_init 5 = .ok (.aload_n 1, 1) := by decide +kernel
theorem dX1_init_6 : decode cX1_init 6 = .ok (.putfield 9, 3) := by decide +kernel
theorem dX1_init_9 : decode cX1_init 9 = .ok (.aload_n 0, 1) := by decide +kernel
theorem dX1_init_10 : decode cX1_init 10 = .ok (.sipush 4094, 3) := by decide +kernel
theorem dX1_init_13 : decode cX1_init 13 = .ok (.newarray .int, 2) := by decide +kernel
theorem dX1_init_15 : decode cX1_init 15 = .ok (.putfield 15, 3) := by decide +kernel
theorem dX1_init_18 : decode cX1_init 18 = .ok (.return_, 1) := by decide +kernel
set_option maxRecDepth 20000 in
theorem ggX1_isOne_X2_all : GoodIn wsX1_isOne wsX2_all := goodIn_r _ [6, 7, 23, 24, 25, 26, 27] (by decide +kernel) (by decide +kernel)
set_option maxRecDepth 20000 in
theorem gX1_isOne_X2_all : GoodIn wsX1_isOne (wsV RX1 19 RX2 yX2_all wsX2_all) := goodIn_app (goodIn_of _ (by decide +kernel)) ggX1_isOne_X2_all
set_option maxRecDepth 20000 in
theorem ggX1_isOne_X2_firstMixed : GoodIn wsX1_isOne wsX2_firstMixed := goodIn_r _ [11, 12, 13, 14, 5, 15, 16, 17, 18, 23, 24, 25, 26, 27] (by decide +kernel) (by decide +kernel)
set_option maxRecDepth 20000 in
theorem gX1_isOne_X2_firstMixed : GoodIn wsX1_isOne (wsV RX1 25 RX2 yX2_firstMixed wsX2_firstMixed) := goodIn_app (goodIn_of _ (by decide +kernel)) ggX1_isOne_X2_firstMixed
theorem dX1_isOne_0 : decode cX1_isOne 0 = .ok (.iload_n 1, 1) := by decide +kernel
theorem dX1_isOne_1 : decode cX1_isOne 1 = .ok (.ifCond .eq 30, 3) := by decide +kernel
theorem dX1_isOne_4 : decode cX1_isOne 4 = .ok (.iload_n 1, 1) := by decide +kernel
theorem dX1_isOne_5 : decode cX1_isOne 5 = .ok (.aload_n 0, 1) := by decide +kernel
theorem dX1_isOne_6 : decode cX1_isOne 6 = .ok (.getfield 9, 3) := by decide +kernel
theorem dX1_isOne_9 : decode cX1_isOne 9 = .ok (.invokevirtual 19, 3) := by decide +kernel
theorem dX1_isOne_12 : decode cX1_isOne 12 = .ok (.if_icmp .eq 19, 3) := by decide +kernel
theorem dX1_isOne_15 : decode cX1_isOne 15 = .ok (.aload_n 0, 1) := by decide +kernel
theorem dX1_isOne_16 : decode cX1_isOne 16 = .ok (.getfield 9, 3) := by decide +kernel
theorem dX1_isOne_19 : decode cX1_isOne 19 = .ok (.iload_n 1, 1) := by decide +kernel
theorem dX1_isOne_20 : decode cX1_isOne 20 = .ok (.invokevirtual 25, 3) := by decide +kernel
theorem dX1_isOne_23 : decode cX1_isOne 23 = .ok (.iconst (-1), 1) := by decide +kernel
theorem dX1_isOne_24 : decode cX1_isOne 24 = .ok (.if_icmp .ne 7, 3) := by decide +kernel
theorem dX1_isOne_27 : decode cX1_isOne 27 = .ok (.iconst 1, 1) := by decide +kernel
theorem dX1_isOne_28 : decode cX1_isOne 28 = .ok (.goto 4, 3) := by decide +kernel
theorem dX1_isOne_31 : decode cX1_isOne 31 = .ok (.iconst 0, 1) := by decide +kernel
theorem dX1_isOne_32 : decode cX1_isOne 32 = .ok (.ireturn, 1) := by decide +kernel
set_option maxRecDepth 20000 in
theorem ggX1_count_X1_search : GoodIn wsX1_count wsX1_search := goodIn_r _ [7, 2, 8, 9, 10, 11, 12, 13, 14, 15, 16, 17, 18, 19, 20, 21, 22, 23, 24, 25, 26, 27, 28, 29, 30, 31, 32, 33, 34, 35] (by decide +kernel) (by decide +kernel)
set_option maxRecDepth 20000 in
theorem gX1_count_X1_search : GoodIn wsX1_count (wsV RX1 33 RX1 yX1_search wsX1_search) := goodIn_app (goodIn_of _ (by decide +kernel)) ggX1_count_X1_search
theorem dX1_count_0 : decode cX1_count 0 = .ok (.aload_n 0, 1) := by decide +kernel
theorem dX1_count_1 : decode cX1_count 1 = .ok (.getfield 29, 3) := by decide +kernel
theorem dX1_count_4 : decode cX1_count 4 = .ok (.ifCond .ne 12, 3) := by decide +kernel
theorem dX1_count_7 : decode cX1_count 7 = .ok (.aload_n 0, 1) := by decide +kernel
theorem dX1_count_8 : decode cX1_count 8 = .ok (.invokevirtual 33, 3) := by decide +kernel
theorem dX1_count_11 : decode cX1_count 11 = .ok (.aload_n 0, 1) := by decide +kernel
theorem dX1_count_12 : decode cX1_count 12 = .ok (.iconst 1, 1) := by decide +kernel
theorem dX1_count_13 : decode cX1_count 13 = .ok (.putfield 29, 3) := by decide +kernel
theorem dX1_count_16 : decode cX1_count 16 = .ok (.aload_n 0, 1) := by decide +kernel
theorem dX1_count_17 : decode cX1_count 17 = .ok (.getfield 36, 3) := by decide +kernel
theorem dX1_count_20 : decode cX1_count 20 = .ok (.ireturn, 1) := by decide +kernel
set_option maxRecDepth 20000 in
theorem ggX1_search_X2_all : GoodIn wsX1_search wsX2_all := goodIn_r _ [8, 9, 25, 26, 27, 28, 29] (by decide +kernel) (by decide +kernel)
set_option maxRecDepth 20000 in
theorem gX1_search_X2_all : GoodIn wsX1_search (wsV RX1 19 RX2 yX2_all wsX2_all) := goodIn_app (goodIn_of _ (by decide +kernel)) ggX1_search_X2_all
set_option maxRecDepth 20000 in
theorem ggX1_search_X2_firstMixed : GoodIn wsX1_search wsX2_firstMixed := goodIn_r _ [13, 14, 15, 16, 7, 17, 18, 19, 20, 25, 26, 27, 28, 29] (by decide +kernel) (by decide +kernel)
set_option maxRecDepth 20000 in
theorem gX1_search_X2_firstMixed : GoodIn wsX1_search (wsV RX1 25 RX2 yX2_firstMixed wsX2_firstMixed) := goodIn_app (goodIn_of _ (by decide +kernel)) ggX1_search_X2_firstMixed
theorem dX1_search_0 : decode cX1_search 0 = .ok (.aload_n 0, 1) := by decide +kernel
theorem dX1_search_1 : decode cX1_search 1 = .ok (.iconst 0, 1) := by decide +kernel
theorem dX1_search_2 : decode cX1_search 2 = .ok (.putfield 36, 3) := by decide +kernel
theorem dX1_search_5 : decode cX1_search 5 = .ok (.aload_n 0, 1) := by decide +kernel
theorem dX1_search_6 : decode cX1_search 6 = .ok (.getfield 9, 3) := by decide +kernel
theorem dX1_search_9 : decode cX1_search 9 = .ok (.invokevirtual 19, 3) := by decide +kernel
theorem dX1_search_12 : decode cX1_search 12 = .ok (.istore_n 1, 1) := by decide +kernel
theorem dX1_search_13 : decode cX1_search 13 = .ok (.iconst 1, 1) := by decide +kernel
theorem dX1_search_14 : decode cX1_search 14 = .ok (.istore_n 2, 1) := by decide +kernel
theorem dX1_search_15 : decode cX1_search 15 = .ok (.iload_n 2, 1) := by decide +kernel
theorem dX1_search_16 : decode cX1_search 16 = .ok (.iload_n 1, 1) := by decide +kernel
theorem dX1_search_17 : decode cX1_search 17 = .ok (.if_icmp .ge 51, 3) := by decide +kernel
theorem dX1_search_20 : decode cX1_search 20 = .ok (.aload_n 0, 1) := by decide +kernel
theorem dX1_search_21 : decode cX1_search 21 = .ok (.getfield 9, 3) := by decide +kernel
theorem dX1_search_24 : decode cX1_search 24 = .ok (.iload_n 2, 1) := by decide +kernel
theorem dX1_search_25 : decode cX1_search 25 = .ok (.invokevirtual 25, 3) := by decide +kernel
theorem dX1_search_28 : decode cX1_search 28 = .ok (.iconst (-1), 1) := by decide +kernel
theorem dX1_search_29 : decode cX1_search 29 = .ok (.if_icmp .ne 33, 3) := by decide +kernel
theorem dX1_search_32 : decode cX1_search 32 = .ok (.aload_n 0, 1) := by decide +kernel
theorem dX1_search_33 : decode cX1_search 33 = .ok (.getfield 36, 3) := by decide +kernel
theorem dX1_search_36 : decode cX1_search 36 = .ok (.sipush 4094, 3) := by decide +kernel
theorem dX1_search_39 : decode cX1_search 39 = .ok (.if_icmp .ge 23, 3) := by decide +kernel
theorem dX1_search_42 : decode cX1_search 42 = .ok (.aload_n 0, 1) := by decide +kernel
theorem dX1_search_43 : decode cX1_search 43 = .ok (.getfield 15, 3) := by decide +kernel
theorem dX1_search_46 : decode cX1_search 46 = .ok (.aload_n 0, 1) := by decide +kernel
theorem dX1_search_47 : decode cX1_search 47 = .ok (.getfield 36, 3) := by decide +kernel
theorem dX1_search_50 : decode cX1_search 50 = .ok (.iload_n 2, 1) := by decide +kernel
theorem dX1_search_51 : decode cX1_search 51 = .ok (.iastore, 1) := by decide +kernel
theorem dX1_search_52 : decode cX1_search 52 = .ok (.aload_n 0, 1) := by decide +kernel
theorem dX1_search_53 : decode cX1_search 53 = .ok (.dup, 1) := by decide +kernel
theorem dX1_search_54 : decode cX1_search 54 = .ok (.getfield 36, 3) := by decide +kernel
theorem dX1_search_57 : decode cX1_search 57 = .ok (.iconst 1, 1) := by decide +kernel
theorem dX1_search_58 : decode cX1_search 58 = .ok (.iadd, 1) := by decide +kernel
theorem dX1_search_59 : decode cX1_search 59 = .ok (.putfield 36, 3) := by decide +kernel
theorem dX1_search_62 : decode cX1_search 62 = .ok (.iinc 2 1, 3) := by decide +kernel
theorem dX1_search_65 : decode cX1_search 65 = .ok (.goto (-50), 3) := by decide +kernel
theorem dX1_search_68 : decode cX1_search 68 = .ok (.return_, 1) := by decide +kernel
theorem dX1_at_0 : decode cX1_at 0 = .ok (.aload_n 0, 1) := by decide +kernel
theorem dX1_at_1 : decode cX1_at 1 = .ok (.getfield 15, 3) := by decide +kernel
theorem dX1_at_4 : decode cX1_at 4 = .ok (.iload_n 1, 1) := by decide +kernel
theorem dX1_at_5 : decode cX1_at 5 = .ok (.iaload, 1) := by decide +kernel
theorem dX1_at_6 : decode cX1_at 6 = .ok (.ireturn, 1) := by decide +kernel
theorem dX1_hasNoPart_0 : decode cX1_hasNoPart 0 = .ok (.iconst 0, 1) := by decide +kernel
theorem dX1_hasNoPart_1 : decode cX1_hasNoPart 1 = .ok (.istore_n 2, 1) := by decide +kernel
theorem dX1_hasNoPart_2 : decode cX1_hasNoPart 2 = .ok (.iload_n 2, 1) := by decide +kernel
theorem dX1_hasNoPart_3 : decode cX1_hasNoPart 3 = .ok (.iload_n 1, 1) := by decide +kernel
theorem dX1_hasNoPart_4 : decode cX1_hasNoPart 4 = .ok (.if_icmp .ge 29, 3) := by decide +kernel
theorem dX1_hasNoPart_7 : decode cX1_hasNoPart 7 = .ok (.aload_n 0, 1) := by decide +kernel
theorem dX1_hasNoPart_8 : decode cX1_hasNoPart 8 = .ok (.getfield 15, 3) := by decide +kernel
theorem dX1_hasNoPart_11 : decode cX1_hasNoPart 11 = .ok (.iload_n 2, 1) := by decide +kernel
theorem dX1_hasNoPart_12 : decode cX1_hasNoPart 12 = .ok (.iaload, 1) := by decide +kernel
theorem dX1_hasNoPart_13 : decode cX1_hasNoPart 13 = .ok (.aload_n 0, 1) := by decide +kernel
theorem dX1_hasNoPart_14 : decode cX1_hasNoPart 14 = .ok (.getfield 15, 3) := by decide +kernel
theorem dX1_hasNoPart_17 : decode cX1_hasNoPart 17 = .ok (.iload_n 1, 1) := by decide +kernel
theorem dX1_hasNoPart_18 : decode cX1_hasNoPart 18 = .ok (.iaload, 1) := by decide +kernel
theorem dX1_hasNoPart_19 : decode cX1_hasNoPart 19 = .ok (.iconst (-1), 1) := by decide +kernel
theorem dX1_hasNoPart_20 : decode cX1_hasNoPart 20 = .ok (.ixor, 1) := by decide +kernel
theorem dX1_hasNoPart_21 : decode cX1_hasNoPart 21 = .ok (.iand, 1) := by decide +kernel
theorem dX1_hasNoPart_22 : decode cX1_hasNoPart 22 = .ok (.ifCond .ne 5, 3) := by decide +kernel
theorem dX1_hasNoPart_25 : decode cX1_hasNoPart 25 = .ok (.iconst 0, 1) := by decide +kernel
theorem dX1_hasNoPart_26 : decode cX1_hasNoPart 26 = .ok (.ireturn, 1) := by decide +kernel
theorem dX1_hasNoPart_27 : decode cX1_hasNoPart 27 = .ok (.iinc 2 1, 3) := by decide +kernel
theorem dX1_hasNoPart_30 : decode cX1_hasNoPart 30 = .ok (.goto (-28), 3) := by decide +kernel
theorem dX1_hasNoPart_33 : decode cX1_hasNoPart 33 = .ok (.iconst 1, 1) := by decide +kernel
theorem dX1_hasNoPart_34 : decode cX1_hasNoPart 34 = .ok (.ireturn, 1) := by decide +kernel
set_option maxRecDepth 20000 in
theorem ggX1_firstApart_X1_count : GoodIn wsX1_firstApart wsX1_count := goodIn_r _ [6, 7, 8, 9, 10, 11, 5, 12, 13, 1, 14, 15, 16, 17, 18, 19, 20, 21, 22, 23, 24, 25, 26, 27, 28, 29, 30, 34, 35, 36, 37, 38, 39, 40, 41, 42] (by decide +kernel) (by decide +kernel)
set_option maxRecDepth 20000 in
theorem gX1_firstApart_X1_count : GoodIn wsX1_firstApart (wsV RX1 40 RX1 yX1_count wsX1_count) := goodIn_app (goodIn_of _ (by decide +kernel)) ggX1_firstApart_X1_count
set_option maxRecDepth 20000 in
theorem ggX1_firstApart_X3_has : GoodIn wsX1_firstApart wsX3_has := goodIn_r _ [33] (by decide +kernel) (by decide +kernel)
set_option maxRecDepth 20000 in
theorem gX1_firstApart_X3_has_n42 : GoodIn wsX1_firstApart (wsX3_has) := ggX1_firstApart_X3_has
theorem dX1_firstApart_0 : decode cX1_firstApart 0 = .ok (.aload_n 0, 1) := by decide +kernel
theorem dX1_firstApart_1 : decode cX1_firstApart 1 = .ok (.invokevirtual 40, 3) := by decide +kernel
theorem dX1_firstApart_4 : decode cX1_firstApart 4 = .ok (.istore_n 3, 1) := by decide +kernel
theorem dX1_firstApart_5 : decode cX1_firstApart 5 = .ok (.iconst 0, 1) := by decide +kernel
theorem dX1_firstApart_6 : decode cX1_firstApart 6 = .ok (.istore 4, 2) := by decide +kernel
theorem dX1_firstApart_8 : decode cX1_firstApart 8 = .ok (.iload 4, 2) := by decide +kernel
theorem dX1_firstApart_10 : decode cX1_firstApart 10 = .ok (.iload_n 3, 1) := by decide +kernel
theorem dX1_firstApart_11 : decode cX1_firstApart 11 = .ok (.if_icmp .ge 37, 3) := by decide +kernel
theorem dX1_firstApart_14 : decode cX1_firstApart 14 = .ok (.aload_n 0, 1) := by decide +kernel
theorem dX1_firstApart_15 : decode cX1_firstApart 15 = .ok (.getfield 15, 3) := by decide +kernel
theorem dX1_firstApart_18 : decode cX1_firstApart 18 = .ok (.iload 4, 2) := by decide +kernel
theorem dX1_firstApart_20 : decode cX1_firstApart 20 = .ok (.iaload, 1) := by decide +kernel
theorem dX1_firstApart_21 : decode cX1_firstApart 21 = .ok (.iload_n 1, 1) := by decide +kernel
theorem dX1_firstApart_22 : decode cX1_firstApart 22 = .ok (.invokestatic 42, 3) := by decide +kernel
theorem dX1_firstApart_25 : decode cX1_firstApart 25 = .ok (.aload_n 0, 1) := by decide +kernel
theorem dX1_firstApart_26 : decode cX1_firstApart 26 = .ok (.getfield 15, 3) := by decide +kernel
theorem dX1_firstApart_29 : decode cX1_firstApart 29 = .ok (.iload 4, 2) := by decide +kernel
theorem dX1_firstApart_31 : decode cX1_firstApart 31 = .ok (.iaload, 1) := by decide +kernel
theorem dX1_firstApart_32 : decode cX1_firstApart 32 = .ok (.iload_n 2, 1) := by decide +kernel
theorem dX1_firstApart_33 : decode cX1_firstApart 33 = .ok (.invokestatic 42, 3) := by decide +kernel
theorem dX1_firstApart_36 : decode cX1_firstApart 36 = .ok (.if_icmp .eq 6, 3) := by decide +kernel
theorem dX1_firstApart_39 : decode cX1_firstApart 39 = .ok (.iload 4, 2) := by decide +kernel
theorem dX1_firstApart_41 : decode cX1_firstApart 41 = .ok (.ireturn, 1) := by decide +kernel
theorem dX1_firstApart_42 : decode cX1_firstApart 42 = .ok (.iinc 4 1, 3) := by decide +kernel
theorem dX1_firstApart_45 : decode cX1_firstApart 45 = .ok (.goto (-37), 3) := by decide +kernel
theorem dX1_firstApart_48 : decode cX1_firstApart 48 = .ok (.iconst (-1), 1) := by decide +kernel
theorem dX1_firstApart_49 : decode cX1_firstApart 49 = .ok (.ireturn, 1) := by decide +kernel
set_option maxRecDepth 20000 in
theorem ggX1_pairsNotApart_X1_firstApart : GoodIn wsX1_pairsNotApart wsX1_firstApart := goodIn_r _ [6, 7, 8, 9, 10, 5, 11, 12, 13, 14, 15, 16, 17, 1, 18, 19, 20, 21, 22, 23, 24, 25, 26, 27, 28, 29, 30, 31, 32, 33, 34, 35, 36, 37, 38, 39, 40, 41, 42, 43, 44, 45, 46] (by decide +kernel) (by decide +kernel)
set_option maxRecDepth 20000 in
theorem gX1_pairsNotApart_X1_firstApart : GoodIn wsX1_pairsNotApart (wsV RX1 57 RX1 yX1_firstApart wsX1_firstApart) := goodIn_app (goodIn_of _ (by decide +kernel)) ggX1_pairsNotApart_X1_firstApart
theorem dX1_pairsNotApart_0 : decode cX1_pairsNotApart 0 = .ok (.iconst 0, 1) := by decide +kernel
theorem dX1_pairsNotApart_1 : decode cX1_pairsNotApart 1 = .ok (.istore_n 1, 1) := by decide +kernel
theorem dX1_pairsNotApart_2 : decode cX1_pairsNotApart 2 = .ok (.iconst 0, 1) := by decide +kernel
theorem dX1_pairsNotApart_3 : decode cX1_pairsNotApart 3 = .ok (.istore_n 2, 1) := by decide +kernel
theorem dX1_pairsNotApart_4 : decode cX1_pairsNotApart 4 = .ok (.iload_n 2, 1) := by decide +kernel
theorem dX1_pairsNotApart_5 : decode cX1_pairsNotApart 5 = .ok (.aload_n 0, 1) := by decide +kernel
theorem dX1_pairsNotApart_6 : decode cX1_pairsNotApart 6 = .ok (.getfield 9, 3) := by decide +kernel
theorem dX1_pairsNotApart_9 : decode cX1_pairsNotApart 9 = .ok (.getfield 54, 3) := by decide +kernel
theorem dX1_pairsNotApart_12 : decode cX1_pairsNotApart 12 = .ok (.if_icmp .ge 43, 3) := by decide +kernel
theorem dX1_pairsNotApart_15 : decode cX1_pairsNotApart 15 = .ok (.iload_n 2, 1) := by decide +kernel
theorem dX1_pairsNotApart_16 : decode cX1_pairsNotApart 16 = .ok (.iconst 1, 1) := by decide +kernel
theorem dX1_pairsNotApart_17 : decode cX1_pairsNotApart 17 = .ok (.iadd, 1) := by decide +kernel
theorem dX1_pairsNotApart_18 : decode cX1_pairsNotApart 18 = .ok (.istore_n 3, 1) := by decide +kernel
theorem dX1_pairsNotApart_19 : decode cX1_pairsNotApart 19 = .ok (.iload_n 3, 1) := by decide +kernel
theorem dX1_pairsNotApart_20 : decode cX1_pairsNotApart 20 = .ok (.aload_n 0, 1) := by decide +kernel
theorem dX1_pairsNotApart_21 : decode cX1_pairsNotApart 21 = .ok (.getfield 9, 3) := by decide +kernel
theorem dX1_pairsNotApart_24 : decode cX1_pairsNotApart 24 = .ok (.getfield 54, 3) := by decide +kernel
theorem dX1_pairsNotApart_27 : decode cX1_pairsNotApart 27 = .ok (.if_icmp .ge 22, 3) := by decide +kernel
theorem dX1_pairsNotApart_30 : decode cX1_pairsNotApart 30 = .ok (.aload_n 0, 1) := by decide +kernel
theorem dX1_pairsNotApart_31 : decode cX1_pairsNotApart 31 = .ok (.iload_n 2, 1) := by decide +kernel
theorem dX1_pairsNotApart_32 : decode cX1_pairsNotApart 32 = .ok (.iload_n 3, 1) := by decide +kernel
theorem dX1_pairsNotApart_33 : decode cX1_pairsNotApart 33 = .ok (.invokevirtual 57, 3) := by decide +kernel
theorem dX1_pairsNotApart_36 : decode cX1_pairsNotApart 36 = .ok (.iconst (-1), 1) := by decide +kernel
theorem dX1_pairsNotApart_37 : decode cX1_pairsNotApart 37 = .ok (.if_icmp .ne 6, 3) := by decide +kernel
theorem dX1_pairsNotApart_40 : decode cX1_pairsNotApart 40 = .ok (.iinc 1 1, 3) := by decide +kernel
theorem dX1_pairsNotApart_43 : decode cX1_pairsNotApart 43 = .ok (.iinc 3 1, 3) := by decide +kernel
theorem dX1_pairsNotApart_46 : decode cX1_pairsNotApart 46 = .ok (.goto (-27), 3) := by decide +kernel
theorem dX1_pairsNotApart_49 : decode cX1_pairsNotApart 49 = .ok (.iinc 2 1, 3) := by decide +kernel
theorem dX1_pairsNotApart_52 : decode cX1_pairsNotApart 52 = .ok (.goto (-48), 3) := by decide +kernel
theorem dX1_pairsNotApart_55 : decode cX1_pairsNotApart 55 = .ok (.iload_n 1, 1) := by decide +kernel
theorem dX1_pairsNotApart_56 : decode cX1_pairsNotApart 56 = .ok (.ireturn, 1) := by decide +kernel
set_option maxRecDepth 20000 in
theorem ggX1_pairsNotPrevented_X2_stopsOf : GoodIn wsX1_pairsNotPrevented wsX2_stopsOf := goodIn_r _ [6, 7, 8, 9, 10, 5, 11, 12, 52, 53, 54, 55, 56] (by decide +kernel) (by decide +kernel)
set_option maxRecDepth 20000 in
theorem gX1_pairsNotPrevented_X2_stopsOf : GoodIn wsX1_pairsNotPrevented (wsV RX1 60 RX2 yX2_stopsOf wsX2_stopsOf) := goodIn_app (goodIn_of _ (by decide +kernel)) ggX1_pairsNotPrevented_X2_stopsOf
set_option maxRecDepth 20000 in
theorem ggX1_pairsNotPrevented_X1_preventedIn : GoodIn wsX1_pairsNotPrevented wsX1_preventedIn := goodIn_r _ [17, 1, 18, 19, 20, 21, 16, 22, 23, 24, 25, 26, 27, 28, 29, 9, 10, 5, 11, 12, 30, 31, 32, 33, 34, 35, 36, 37, 7, 38, 39, 40, 48, 49, 50, 51, 52, 53, 54, 55, 56] (by decide +kernel) (by decide +kernel)
set_option maxRecDepth 20000 in
theorem gX1_pairsNotPrevented_X1_preventedIn : GoodIn wsX1_pairsNotPrevented (wsV RX1 63 RX1 yX1_preventedIn wsX1_preventedIn) := goodIn_app (goodIn_of _ (by decide +kernel)) ggX1_pairsNotPrevented_X1_preventedIn
set_option maxRecDepth 20000 in
theorem ggX1_pairsNotPrevented_J6_bitCount_0f7a4 : GoodIn wsX1_pairsNotPrevented wsJ6_bitCount_0f7a4 := goodIn_r _ [44, 45, 46, 47] (by decide +kernel) (by decide +kernel)
set_option maxRecDepth 20000 in
theorem gX1_pairsNotPrevented_J6_bitCount_0f7a4 : GoodIn wsX1_pairsNotPrevented (va_wsS RX1 66 yJ6_bitCount_0f7a4 wsJ6_bitCount_0f7a4) := goodIn_app (goodIn_of _ (by decide +kernel)) ggX1_pairsNotPrevented_J6_bitCount_0f7a4
theorem dX1_pairsNotPrevented_0 : decode cX1_pairsNotPrevented 0 = .ok (.iconst 0, 1) := by decide +kernel
theorem dX1_pairsNotPrevented_1 : decode cX1_pairsNotPrevented 1 = .ok (.istore_n 1, 1) := by decide +kernel
theorem dX1_pairsNotPrevented_2 : decode cX1_pairsNotPrevented 2 = .ok (.iconst 0, 1) := by decide +kernel
theorem dX1_pairsNotPrevented_3 : decode cX1_pairsNotPrevented 3 = .ok (.istore_n 2, 1) := by decide +kernel
theorem dX1_pairsNotPrevented_4 : decode cX1_pairsNotPrevented 4 = .ok (.iload_n 2, 1) := by decide +kernel
theorem dX1_pairsNotPrevented_5 : decode cX1_pairsNotPrevented 5 = .ok (.bipush 6, 2) := by decide +kernel
theorem dX1_pairsNotPrevented_7 : decode cX1_pairsNotPrevented 7 = .ok (.if_icmp .ge 31, 3) := by decide +kernel
theorem dX1_pairsNotPrevented_10 : decode cX1_pairsNotPrevented 10 = .ok (.iload_n 1, 1) := by decide +kernel
theorem dX1_pairsNotPrevented_11 : decode cX1_pairsNotPrevented 11 = .ok (.aload_n 0, 1) := by decide +kernel
theorem dX1_pairsNotPrevented_12 : decode cX1_pairsNotPrevented 12 = .ok (.getfield 9, 3) := by decide +kernel
theorem dX1_pairsNotPrevented_15 : decode cX1_pairsNotPrevented 15 = .ok (.iload_n 2, 1) := by decide +kernel
theorem dX1_pairsNotPrevented_16 : decode cX1_pairsNotPrevented 16 = .ok (.invokevirtual 60, 3) := by decide +kernel
theorem dX1_pairsNotPrevented_19 : decode cX1_pairsNotPrevented 19 = .ok (.aload_n 0, 1) := by decide +kernel
theorem dX1_pairsNotPrevented_20 : decode cX1_pairsNotPrevented 20 = .ok (.iload_n 2, 1) := by decide +kernel
theorem dX1_pairsNotPrevented_21 : decode cX1_pairsNotPrevented 21 = .ok (.invokevirtual 63, 3) := by decide +kernel
theorem dX1_pairsNotPrevented_24 : decode cX1_pairsNotPrevented 24 = .ok (.iconst (-1), 1) := by decide +kernel
theorem dX1_pairsNotPrevented_25 : decode cX1_pairsNotPrevented 25 = .ok (.ixor, 1) := by decide +kernel
theorem dX1_pairsNotPrevented_26 : decode cX1_pairsNotPrevented 26 = .ok (.iand, 1) := by decide +kernel
theorem dX1_pairsNotPrevented_27 : decode cX1_pairsNotPrevented 27 = .ok (.invokestatic 66, 3) := by decide +kernel
theorem dX1_pairsNotPrevented_30 : decode cX1_pairsNotPrevented 30 = .ok (.iadd, 1) := by decide +kernel
theorem dX1_pairsNotPrevented_31 : decode cX1_pairsNotPrevented 31 = .ok (.istore_n 1, 1) := by decide +kernel
theorem dX1_pairsNotPrevented_32 : decode cX1_pairsNotPrevented 32 = .ok (.iinc 2 1, 3) := by decide +kernel
theorem dX1_pairsNotPrevented_35 : decode cX1_pairsNotPrevented 35 = .ok (.goto (-31), 3) := by decide +kernel
theorem dX1_pairsNotPrevented_38 : decode cX1_pairsNotPrevented 38 = .ok (.iload_n 1, 1) := by decide +kernel
theorem dX1_pairsNotPrevented_39 : decode cX1_pairsNotPrevented 39 = .ok (.ireturn, 1) := by decide +kernel
set_option maxRecDepth 20000 in
theorem ggX1_preventedIn_X1_count : GoodIn wsX1_preventedIn wsX1_count := goodIn_r _ [7, 8, 9, 10, 11, 12, 6, 13, 1, 2, 14, 15, 16, 17, 18, 19, 20, 21, 22, 23, 24, 25, 26, 27, 28, 29, 30, 32, 33, 34, 35, 36, 37, 38, 39, 40] (by decide +kernel) (by decide +kernel)
set_option maxRecDepth 20000 in
theorem gX1_preventedIn_X1_count : GoodIn wsX1_preventedIn (wsV RX1 40 RX1 yX1_count wsX1_count) := goodIn_app (goodIn_of _ (by decide +kernel)) ggX1_preventedIn_X1_count
set_option maxRecDepth 20000 in
theorem ggX1_preventedIn_X2_way : GoodIn wsX1_preventedIn wsX2_way := goodIn_r _ [27, 28, 29, 30, 36, 37, 38, 39, 40] (by decide +kernel) (by decide +kernel)
set_option maxRecDepth 20000 in
theorem gX1_preventedIn_X2_way : GoodIn wsX1_preventedIn (wsV RX1 50 RX2 yX2_way wsX2_way) := goodIn_app (goodIn_of _ (by decide +kernel)) ggX1_preventedIn_X2_way
theorem dX1_preventedIn_0 : decode cX1_preventedIn 0 = .ok (.iconst 0, 1) := by decide +kernel
theorem dX1_preventedIn_1 : decode cX1_preventedIn 1 = .ok (.istore_n 2, 1) := by decide +kernel
theorem dX1_preventedIn_2 : decode cX1_preventedIn 2 = .ok (.aload_n 0, 1) := by decide +kernel
theorem dX1_preventedIn_3 : decode cX1_preventedIn 3 = .ok (.invokevirtual 40, 3) := by decide +kernel
theorem dX1_preventedIn_6 : decode cX1_preventedIn 6 = .ok (.istore_n 3, 1) := by decide +kernel
theorem dX1_preventedIn_7 : decode cX1_preventedIn 7 = .ok (.iconst 0, 1) := by decide +kernel
theorem dX1_preventedIn_8 : decode cX1_preventedIn 8 = .ok (.istore 4, 2) := by decide +kernel
theorem dX1_preventedIn_10 : decode cX1_preventedIn 10 = .ok (.iload 4, 2) := by decide +kernel
theorem dX1_preventedIn_12 : decode cX1_preventedIn 12 = .ok (.iload_n 3, 1) := by decide +kernel
theorem dX1_preventedIn_13 : decode cX1_preventedIn 13 = .ok (.if_icmp .ge 63, 3) := by decide +kernel
theorem dX1_preventedIn_16 : decode cX1_preventedIn 16 = .ok (.aload_n 0, 1) := by decide +kernel
theorem dX1_preventedIn_17 : decode cX1_preventedIn 17 = .ok (.getfield 9, 3) := by decide +kernel
theorem dX1_preventedIn_20 : decode cX1_preventedIn 20 = .ok (.aload_n 0, 1) := by decide +kernel
theorem dX1_preventedIn_21 : decode cX1_preventedIn 21 = .ok (.getfield 15, 3) := by decide +kernel
theorem dX1_preventedIn_24 : decode cX1_preventedIn 24 = .ok (.iload 4, 2) := by decide +kernel
theorem dX1_preventedIn_26 : decode cX1_preventedIn 26 = .ok (.iaload, 1) := by decide +kernel
theorem dX1_preventedIn_27 : decode cX1_preventedIn 27 = .ok (.iload_n 1, 1) := by decide +kernel
theorem dX1_preventedIn_28 : decode cX1_preventedIn 28 = .ok (.invokevirtual 50, 3) := by decide +kernel
theorem dX1_preventedIn_31 : decode cX1_preventedIn 31 = .ok (.istore 5, 2) := by decide +kernel
theorem dX1_preventedIn_33 : decode cX1_preventedIn 33 = .ok (.iload 5, 2) := by decide +kernel
theorem dX1_preventedIn_35 : decode cX1_preventedIn 35 = .ok (.iconst 2, 1) := by decide +kernel
theorem dX1_preventedIn_36 : decode cX1_preventedIn 36 = .ok (.if_icmp .ne 18, 3) := by decide +kernel
theorem dX1_preventedIn_39 : decode cX1_preventedIn 39 = .ok (.iload_n 2, 1) := by decide +kernel
theorem dX1_preventedIn_40 : decode cX1_preventedIn 40 = .ok (.aload_n 0, 1) := by decide +kernel
theorem dX1_preventedIn_41 : decode cX1_preventedIn 41 = .ok (.getfield 15, 3) := by decide +kernel
theorem dX1_preventedIn_44 : decode cX1_preventedIn 44 = .ok (.iload 4, 2) := by decide +kernel
theorem dX1_preventedIn_46 : decode cX1_preventedIn 46 = .ok (.iaload, 1) := by decide +kernel
theorem dX1_preventedIn_47 : decode cX1_preventedIn 47 = .ok (.iconst (-1), 1) := by decide +kernel
theorem dX1_preventedIn_48 : decode cX1_preventedIn 48 = .ok (.ixor, 1) := by decide +kernel
theorem dX1_preventedIn_49 : decode cX1_preventedIn 49 = .ok (.ior, 1) := by decide +kernel
theorem dX1_preventedIn_50 : decode cX1_preventedIn 50 = .ok (.istore_n 2, 1) := by decide +kernel
theorem dX1_preventedIn_51 : decode cX1_preventedIn 51 = .ok (.goto 19, 3) := by decide +kernel
theorem dX1_preventedIn_54 : decode cX1_preventedIn 54 = .ok (.iload 5, 2) := by decide +kernel
theorem dX1_preventedIn_56 : decode cX1_preventedIn 56 = .ok (.iconst 1, 1) := by decide +kernel
theorem dX1_preventedIn_57 : decode cX1_preventedIn 57 = .ok (.if_icmp .ne 13, 3) := by decide +kernel
theorem dX1_preventedIn_60 : decode cX1_preventedIn 60 = .ok (.iload_n 2, 1) := by decide +kernel
theorem dX1_preventedIn_61 : decode cX1_preventedIn 61 = .ok (.aload_n 0, 1) := by decide +kernel
theorem dX1_preventedIn_62 : decode cX1_preventedIn 62 = .ok (.getfield 15, 3) := by decide +kernel
theorem dX1_preventedIn_65 : decode cX1_preventedIn 65 = .ok (.iload 4, 2) := by decide +kernel
theorem dX1_preventedIn_67 : decode cX1_preventedIn 67 = .ok (.iaload, 1) := by decide +kernel
theorem dX1_preventedIn_68 : decode cX1_preventedIn 68 = .ok (.ior, 1) := by decide +kernel
theorem dX1_preventedIn_69 : decode cX1_preventedIn 69 = .ok (.istore_n 2, 1) := by decide +kernel
theorem dX1_preventedIn_70 : decode cX1_preventedIn 70 = .ok (.iinc 4 1, 3) := by decide +kernel
theorem dX1_preventedIn_73 : decode cX1_preventedIn 73 = .ok (.goto (-63), 3) := by decide +kernel
theorem dX1_preventedIn_76 : decode cX1_preventedIn 76 = .ok (.iload_n 2, 1) := by decide +kernel
theorem dX1_preventedIn_77 : decode cX1_preventedIn 77 = .ok (.ireturn, 1) := by decide +kernel
theorem dX2_init_0 : decode cX2_init 0 = .ok (.aload_n 0, 1) := by decide +kernel
theorem dX2_init_1 : decode cX2_init 1 = .ok (.invokespecial 3, 3) := by decide +kernel
theorem dX2_init_4 : decode cX2_init 4 = .ok (.aload_n 0, 1) := by decide +kernel
theorem dX2_init_5 : decode cX2_init 5 = .ok (.iconst 1, 1) := by decide +kernel
theorem dX2_init_6 : decode cX2_init 6 = .ok (.putfield 9, 3) := by decide +kernel
theorem dX2_init_9 : decode cX2_init 9 = .ok (.aload_n 0, 1) := by decide +kernel
theorem dX2_init_10 : decode cX2_init 10 = .ok (.bipush 6, 2) := by decide +kernel
theorem dX2_init_12 : decode cX2_init 12 = .ok (.bipush 12, 2) := by decide +kernel
theorem dX2_init_14 : decode cX2_init 14 = .ok (.multianewarray 15 2, 4) := by decide +kernel
theorem dX2_init_18 : decode cX2_init 18 = .ok (.putfield 17, 3) := by decide +kernel
theorem dX2_init_21 : decode cX2_init 21 = .ok (.aload_n 0, 1) := by decide +kernel
theorem dX2_init_22 : decode cX2_init 22 = .ok (.bipush 6, 2) := by decide +kernel
theorem dX2_init_24 : decode cX2_init 24 = .ok (.newarray .int, 2) := by decide +kernel
theorem dX2_init_26 : decode cX2_init 26 = .ok (.putfield 20, 3) := by decide +kernel
theorem dX2_init_29 : decode cX2_init 29 = .ok (.aload_n 0, 1) := by decide +kernel
theorem dX2_init_30 : decode cX2_init 30 = .ok (.bipush 6, 2) := by decide +kernel
theorem dX2_init_32 : decode cX2_init 32 = .ok (.bipush 64, 2) := by decide +kernel
theorem dX2_init_34 : decode cX2_init 34 = .ok (.multianewarray 15 2, 4) := by decide +kernel
theorem dX2_init_38 : decode cX2_init 38 = .ok (.putfield 24, 3) := by decide +kernel
theorem dX2_init_41 : decode cX2_init 41 = .ok (.aload_n 0, 1) := by decide +kernel
theorem dX2_init_42 : decode cX2_init 42 = .ok (.bipush 6, 2) := by decide +kernel
theorem dX2_init_44 : decode cX2_init 44 = .ok (.bipush 64, 2) := by decide +kernel
theorem dX2_init_46 : decode cX2_init 46 = .ok (.multianewarray 15 2, 4) := by decide +kernel
theorem dX2_init_50 : decode cX2_init 50 = .ok (.putfield 27, 3) := by decide +kernel
theorem dX2_init_53 : decode cX2_init 53 = .ok (.iconst 0, 1) := by decide +kernel
theorem dX2_init_54 : decode cX2_init 54 = .ok (.istore_n 1, 1) := by decide +kernel
theorem dX2_init_55 : decode cX2_init 55 = .ok (.iload_n 1, 1) := by decide +kernel
theorem dX2_init_56 : decode cX2_init 56 = .ok (.bipush 6, 2) := by decide +kernel
theorem dX2_init_58 : decode cX2_init 58 = .ok (.if_icmp .ge 32, 3) := by decide +kernel
theorem dX2_init_61 : decode cX2_init 61 = .ok (.iconst 0, 1) := by decide +kernel
theorem dX2_init_62 : decode cX2_init 62 = .ok (.istore_n 2, 1) := by decide +kernel
theorem dX2_init_63 : decode cX2_init 63 = .ok (.iload_n 2, 1) := by decide +kernel
theorem dX2_init_64 : decode cX2_init 64 = .ok (.bipush 12, 2) := by decide +kernel
theorem dX2_init_66 : decode cX2_init 66 = .ok (.if_icmp .ge 18, 3) := by decide +kernel
theorem dX2_init_69 : decode cX2_init 69 = .ok (.aload_n 0, 1) := by decide +kernel
theorem dX2_init_70 : decode cX2_init 70 = .ok (.getfield 17, 3) := by decide +kernel
theorem dX2_init_73 : decode cX2_init 73 = .ok (.iload_n 1, 1) := by decide +kernel
theorem dX2_init_74 : decode cX2_init 74 = .ok (.aaload, 1) := by decide +kernel
theorem dX2_init_75 : decode cX2_init 75 = .ok (.iload_n 2, 1) := by decide +kernel
theorem dX2_init_76 : decode cX2_init 76 = .ok (.iconst (-1), 1) := by decide +kernel
theorem dX2_init_77 : decode cX2_init 77 = .ok (.iastore, 1) := by decide +kernel
theorem dX2_init_78 : decode cX2_init 78 = .ok (.iinc 2 1, 3) := by decide +kernel
theorem dX2_init_81 : decode cX2_init 81 = .ok (.goto (-18), 3) := by decide +kernel
theorem dX2_init_84 : decode cX2_init 84 = .ok (.iinc 1 1, 3) := by decide +kernel
theorem dX2_init_87 : decode cX2_init 87 = .ok (.goto (-32), 3) := by decide +kernel
theorem dX2_init_90 : decode cX2_init 90 = .ok (.return_, 1) := by decide +kernel
theorem dX2_all_0 : decode cX2_all 0 = .ok (.iconst 1, 1) := by decide +kernel
theorem dX2_all_1 : decode cX2_all 1 = .ok (.aload_n 0, 1) := by decide +kernel
theorem dX2_all_2 : decode cX2_all 2 = .ok (.getfield 9, 3) := by decide +kernel
theorem dX2_all_5 : decode cX2_all 5 = .ok (.ishl, 1) := by decide +kernel
theorem dX2_all_6 : decode cX2_all 6 = .ok (.iconst 1, 1) := by decide +kernel
theorem dX2_all_7 : decode cX2_all 7 = .ok (.isub, 1) := by decide +kernel
theorem dX2_all_8 : decode cX2_all 8 = .ok (.ireturn, 1) := by decide +kernel
theorem dX2_end_0 : decode cX2_end 0 = .ok (.aload_n 0, 1) := by decide +kernel
theorem dX2_end_1 : decode cX2_end 1 = .ok (.getfield 17, 3) := by decide +kernel
theorem dX2_end_4 : decode cX2_end 4 = .ok (.iload_n 2, 1) := by decide +kernel
theorem dX2_end_5 : decode cX2_end 5 = .ok (.aaload, 1) := by decide +kernel
theorem dX2_end_6 : decode cX2_end 6 = .ok (.iload_n 1, 1) := by decide +kernel
theorem dX2_end_7 : decode cX2_end 7 = .ok (.iaload, 1) := by decide +kernel
theorem dX2_end_8 : decode cX2_end 8 = .ok (.ireturn, 1) := by decide +kernel
theorem dX2_beginning_0 : decode cX2_beginning 0 = .ok (.aload_n 0, 1) := by decide +kernel
theorem dX2_beginning_1 : decode cX2_beginning 1 = .ok (.getfield 20, 3) := by decide +kernel
theorem dX2_beginning_4 : decode cX2_beginning 4 = .ok (.iload_n 1, 1) := by decide +kernel
theorem dX2_beginning_5 : decode cX2_beginning 5 = .ok (.iaload, 1) := by decide +kernel
theorem dX2_beginning_6 : decode cX2_beginning 6 = .ok (.ireturn, 1) := by decide +kernel
set_option maxRecDepth 20000 in
theorem ggX2_put_X2_setEnd : GoodIn wsX2_put wsX2_setEnd := goodIn_r _ [5, 6, 7, 23, 24, 25, 26, 27] (by decide +kernel) (by decide +kernel)
set_option maxRecDepth 20000 in
theorem gX2_put_X2_setEnd : GoodIn wsX2_put (wsV RX2 30 RX2 yX2_setEnd wsX2_setEnd) := goodIn_app (goodIn_of _ (by decide +kernel)) ggX2_put_X2_setEnd
set_option maxRecDepth 20000 in
theorem ggX2_put_X2_learnSources : GoodIn wsX2_put wsX2_learnSources := goodIn_r _ [11, 12, 13, 14, 15, 16, 4, 17, 18, 19, 20, 21, 22, 6, 23, 24, 25, 26, 27] (by decide +kernel) (by decide +kernel)
set_option maxRecDepth 20000 in
theorem gX2_put_X2_learnSources : GoodIn wsX2_put (wsV RX2 34 RX2 yX2_learnSources wsX2_learnSources) := goodIn_app (goodIn_of _ (by decide +kernel)) ggX2_put_X2_learnSources
theorem dX2_put_0 : decode cX2_put 0 = .ok (.aload_n 0, 1) := by decide +kernel
theorem dX2_put_1 : decode cX2_put 1 = .ok (.iload_n 1, 1) := by decide +kernel
theorem dX2_put_2 : decode cX2_put 2 = .ok (.iload_n 2, 1) := by decide +kernel
theorem dX2_put_3 : decode cX2_put 3 = .ok (.iload_n 3, 1) := by decide +kernel
theorem dX2_put_4 : decode cX2_put 4 = .ok (.invokevirtual 30, 3) := by decide +kernel
theorem dX2_put_7 : decode cX2_put 7 = .ok (.aload_n 0, 1) := by decide +kernel
theorem dX2_put_8 : decode cX2_put 8 = .ok (.iload_n 2, 1) := by decide +kernel
theorem dX2_put_9 : decode cX2_put 9 = .ok (.invokevirtual 34, 3) := by decide +kernel
theorem dX2_put_12 : decode cX2_put 12 = .ok (.return_, 1) := by decide +kernel
theorem dX2_setEnd_0 : decode cX2_setEnd 0 = .ok (.aload_n 0, 1) := by decide +kernel
theorem dX2_setEnd_1 : decode cX2_setEnd 1 = .ok (.getfield 17, 3) := by decide +kernel
theorem dX2_setEnd_4 : decode cX2_setEnd 4 = .ok (.iload_n 2, 1) := by decide +kernel
theorem dX2_setEnd_5 : decode cX2_setEnd 5 = .ok (.aaload, 1) := by decide +kernel
theorem dX2_setEnd_6 : decode cX2_setEnd 6 = .ok (.iload_n 1, 1) := by decide +kernel
theorem dX2_setEnd_7 : decode cX2_setEnd 7 = .ok (.iload_n 3, 1) := by decide +kernel
theorem dX2_setEnd_8 : decode cX2_setEnd 8 = .ok (.iastore, 1) := by decide +kernel
theorem dX2_setEnd_9 : decode cX2_setEnd 9 = .ok (.iconst 1, 1) := by decide +kernel
theorem dX2_setEnd_10 : decode cX2_setEnd 10 = .ok (.iload_n 1, 1) := by decide +kernel
theorem dX2_setEnd_11 : decode cX2_setEnd 11 = .ok (.ishl, 1) := by decide +kernel
theorem dX2_setEnd_12 : decode cX2_setEnd 12 = .ok (.istore 4, 2) := by decide +kernel
theorem dX2_setEnd_14 : decode cX2_setEnd 14 = .ok (.aload_n 0, 1) := by decide +kernel
theorem dX2_setEnd_15 : decode cX2_setEnd 15 = .ok (.getfield 20, 3) := by decide +kernel
theorem dX2_setEnd_18 : decode cX2_setEnd 18 = .ok (.iload_n 2, 1) := by decide +kernel
theorem dX2_setEnd_19 : decode cX2_setEnd 19 = .ok (.iload_n 3, 1) := by decide +kernel
theorem dX2_setEnd_20 : decode cX2_setEnd 20 = .ok (.iconst (-1), 1) := by decide +kernel
theorem dX2_setEnd_21 : decode cX2_setEnd 21 = .ok (.if_icmp .ne 17, 3) := by decide +kernel
theorem dX2_setEnd_24 : decode cX2_setEnd 24 = .ok (.aload_n 0, 1) := by decide +kernel
theorem dX2_setEnd_25 : decode cX2_setEnd 25 = .ok (.getfield 20, 3) := by decide +kernel
theorem dX2_setEnd_28 : decode cX2_setEnd 28 = .ok (.iload_n 2, 1) := by decide +kernel
theorem dX2_setEnd_29 : decode cX2_setEnd 29 = .ok (.iaload, 1) := by decide +kernel
theorem dX2_setEnd_30 : decode cX2_setEnd 30 = .ok (.iload 4, 2) := by decide +kernel
theorem dX2_setEnd_32 : decode cX2_setEnd 32 = .ok (.iconst (-1), 1) := by decide +kernel
theorem dX2_setEnd_33 : decode cX2_setEnd 33 = .ok (.ixor, 1) := by decide +kernel
theorem dX2_setEnd_34 : decode cX2_setEnd 34 = .ok (.iand, 1) := by decide +kernel
theorem dX2_setEnd_35 : decode cX2_setEnd 35 = .ok (.goto 12, 3) := by decide +kernel
theorem dX2_setEnd_38 : decode cX2_setEnd 38 = .ok (.aload_n 0, 1) := by decide +kernel
theorem dX2_setEnd_39 : decode cX2_setEnd 39 = .ok (.getfield 20, 3) := by decide +kernel
theorem dX2_setEnd_42 : decode cX2_setEnd 42 = .ok (.iload_n 2, 1) := by decide +kernel
theorem dX2_setEnd_43 : decode cX2_setEnd 43 = .ok (.iaload, 1) := by decide +kernel
theorem dX2_setEnd_44 : decode cX2_setEnd 44 = .ok (.iload 4, 2) := by decide +kernel
theorem dX2_setEnd_46 : decode cX2_setEnd 46 = .ok (.ior, 1) := by decide +kernel
theorem dX2_setEnd_47 : decode cX2_setEnd 47 = .ok (.iastore, 1) := by decide +kernel
theorem dX2_setEnd_48 : decode cX2_setEnd 48 = .ok (.return_, 1) := by decide +kernel
set_option maxRecDepth 20000 in
theorem ggX2_learnSources_X2_learnHalf : GoodIn wsX2_learnSources wsX2_learnHalf := goodIn_r _ [7, 8, 9, 10, 6, 11, 12, 13, 14, 15, 16, 17, 18] (by decide +kernel) (by decide +kernel)
set_option maxRecDepth 20000 in
theorem gX2_learnSources_X2_learnHalf : GoodIn wsX2_learnSources (wsV RX2 38 RX2 yX2_learnHalf wsX2_learnHalf) := goodIn_app (goodIn_of _ (by decide +kernel)) ggX2_learnSources_X2_learnHalf
theorem dX2_learnSources_0 : decode cX2_learnSources 0 = .ok (.aload_n 0, 1) := by decide +kernel
theorem dX2_learnSources_1 : decode cX2_learnSources 1 = .ok (.iload_n 1, 1) := by decide +kernel
theorem dX2_learnSources_2 : decode cX2_learnSources 2 = .ok (.iconst 0, 1) := by decide +kernel
theorem dX2_learnSources_3 : decode cX2_learnSources 3 = .ok (.aload_n 0, 1) := by decide +kernel
theorem dX2_learnSources_4 : decode cX2_learnSources 4 = .ok (.getfield 24, 3) := by decide +kernel
theorem dX2_learnSources_7 : decode cX2_learnSources 7 = .ok (.iload_n 1, 1) := by decide +kernel
theorem dX2_learnSources_8 : decode cX2_learnSources 8 = .ok (.aaload, 1) := by decide +kernel
theorem dX2_learnSources_9 : decode cX2_learnSources 9 = .ok (.invokevirtual 38, 3) := by decide +kernel
theorem dX2_learnSources_12 : decode cX2_learnSources 12 = .ok (.aload_n 0, 1) := by decide +kernel
theorem dX2_learnSources_13 : decode cX2_learnSources 13 = .ok (.iload_n 1, 1) := by decide +kernel
theorem dX2_learnSources_14 : decode cX2_learnSources 14 = .ok (.bipush 6, 2) := by decide +kernel
theorem dX2_learnSources_16 : decode cX2_learnSources 16 = .ok (.aload_n 0, 1) := by decide +kernel
theorem dX2_learnSources_17 : decode cX2_learnSources 17 = .ok (.getfield 27, 3) := by decide +kernel
theorem dX2_learnSources_20 : decode cX2_learnSources 20 = .ok (.iload_n 1, 1) := by decide +kernel
theorem dX2_learnSources_21 : decode cX2_learnSources 21 = .ok (.aaload, 1) := by decide +kernel
theorem dX2_learnSources_22 : decode cX2_learnSources 22 = .ok (.invokevirtual 38, 3) := by decide +kernel
theorem dX2_learnSources_25 : decode cX2_learnSources 25 = .ok (.return_, 1) := by decide +kernel
set_option maxRecDepth 20000 in
theorem ggX2_learnHalf_X2_beginsOfStepsTo : GoodIn wsX2_learnHalf wsX2_beginsOfStepsTo := goodIn_r _ [5, 6, 7, 8, 9, 10, 11, 12] (by decide +kernel) (by decide +kernel)
set_option maxRecDepth 20000 in
theorem gX2_learnHalf_X2_beginsOfStepsTo : GoodIn wsX2_learnHalf (wsV RX2 42 RX2 yX2_beginsOfStepsTo wsX2_beginsOfStepsTo) := goodIn_app (goodIn_of _ (by decide +kernel)) ggX2_learnHalf_X2_beginsOfStepsTo
theorem dX2_learnHalf_0 : decode cX2_learnHalf 0 = .ok (.iconst 0, 1) := by decide +kernel
theorem dX2_learnHalf_1 : decode cX2_learnHalf 1 = .ok (.istore 4, 2) := by decide +kernel
theorem dX2_learnHalf_3 : decode cX2_learnHalf 3 = .ok (.iload 4, 2) := by decide +kernel
theorem dX2_learnHalf_5 : decode cX2_learnHalf 5 = .ok (.bipush 6, 2) := by decide +kernel
theorem dX2_learnHalf_7 : decode cX2_learnHalf 7 = .ok (.if_icmp .ge 56, 3) := by decide +kernel
theorem dX2_learnHalf_10 : decode cX2_learnHalf 10 = .ok (.aload_n 0, 1) := by decide +kernel
