set_option maxRecDepth 20000 in
theorem gX3_apart_X1_firstApart : GoodIn wsX3_apart (wsV RX3 110 RX1 yX1_firstApart wsX1_firstApart) := goodIn_app (goodIn_of _ (by decide +kernel)) ggX3_apart_X1_firstApart
theorem dX3_apart_0 : decode cX3_apart 0 = .ok (.aload_n 0, 1) := by decide +kernel
theorem dX3_apart_1 : decode cX3_apart 1 = .ok (.iload_n 1, 1) := by decide +kernel
theorem dX3_apart_2 : decode cX3_apart 2 = .ok (.invokevirtual 48, 3) := by decide +kernel
theorem dX3_apart_5 : decode cX3_apart 5 = .ok (.aload_n 0, 1) := by decide +kernel
theorem dX3_apart_6 : decode cX3_apart 6 = .ok (.iload_n 2, 1) := by decide +kernel
theorem dX3_apart_7 : decode cX3_apart 7 = .ok (.invokevirtual 48, 3) := by decide +kernel
theorem dX3_apart_10 : decode cX3_apart 10 = .ok (.aload_n 0, 1) := by decide +kernel
theorem dX3_apart_11 : decode cX3_apart 11 = .ok (.getfield 21, 3) := by decide +kernel
theorem dX3_apart_14 : decode cX3_apart 14 = .ok (.iload_n 1, 1) := by decide +kernel
theorem dX3_apart_15 : decode cX3_apart 15 = .ok (.iload_n 2, 1) := by decide +kernel
theorem dX3_apart_16 : decode cX3_apart 16 = .ok (.invokevirtual 110, 3) := by decide +kernel
theorem dX3_apart_19 : decode cX3_apart 19 = .ok (.ireturn, 1) := by decide +kernel
set_option maxRecDepth 20000 in
theorem ggX3_preventer_X3_needState : GoodIn wsX3_preventer wsX3_needState := goodIn_ca (goodIn_r _ [7, 8, 9, 1, 59, 60, 61, 62, 63, 64, 65, 66] (by decide +kernel) (by decide +kernel)) (goodIn_sub (fun _ h => List.mem_cons_of_mem _ (List.mem_append_right _ h)) (by decide +kernel))
set_option maxRecDepth 20000 in
theorem gX3_preventer_X3_needState : GoodIn wsX3_preventer (wsV RX3 48 RX3 yX3_needState wsX3_needState) := goodIn_app (goodIn_of _ (by decide +kernel)) ggX3_preventer_X3_needState
set_option maxRecDepth 20000 in
theorem ggX3_preventer_X3_needLabel : GoodIn wsX3_preventer wsX3_needLabel := goodIn_ca (goodIn_r _ [12, 8, 9] (by decide +kernel) (by decide +kernel)) (goodIn_sub (fun _ h => List.mem_cons_of_mem _ (List.mem_append_right _ h)) (by decide +kernel))
set_option maxRecDepth 20000 in
theorem gX3_preventer_X3_needLabel : GoodIn wsX3_preventer (va_wsS RX3 52 yX3_needLabel wsX3_needLabel) := goodIn_app (goodIn_of _ (by decide +kernel)) ggX3_preventer_X3_needLabel
set_option maxRecDepth 20000 in
theorem ggX3_preventer_X2_end : GoodIn wsX3_preventer wsX2_end := goodIn_r _ [17, 18, 62, 63, 64, 65, 66] (by decide +kernel) (by decide +kernel)
set_option maxRecDepth 20000 in
theorem gX3_preventer_X2_end : GoodIn wsX3_preventer (wsV RX3 55 RX2 yX2_end wsX2_end) := goodIn_app (goodIn_of _ (by decide +kernel)) ggX3_preventer_X2_end
set_option maxRecDepth 20000 in
theorem ggX3_preventer_X1_firstPreventing : GoodIn wsX3_preventer wsX1_firstPreventing := goodIn_r _ [23, 24, 25, 26, 27, 22, 28, 29, 30, 31, 32, 33, 34, 35, 36, 37, 38, 16, 39, 40, 41, 42, 43, 44, 45, 46, 47, 48, 49, 50, 51, 52, 53, 54, 55, 56, 57, 6, 58, 67, 68, 69, 70, 62, 63, 64, 65, 66] (by decide +kernel) (by decide +kernel)
set_option maxRecDepth 20000 in
theorem gX3_preventer_X1_firstPreventing : GoodIn wsX3_preventer (wsV RX3 113 RX1 yX1_firstPreventing wsX1_firstPreventing) := goodIn_app (goodIn_of _ (by decide +kernel)) ggX3_preventer_X1_firstPreventing
theorem dX3_preventer_0 : decode cX3_preventer 0 = .ok (.aload_n 0, 1) := by decide +kernel
theorem dX3_preventer_1 : decode cX3_preventer 1 = .ok (.iload_n 1, 1) := by decide +kernel
theorem dX3_preventer_2 : decode cX3_preventer 2 = .ok (.invokevirtual 48, 3) := by decide +kernel
theorem dX3_preventer_5 : decode cX3_preventer 5 = .ok (.iload_n 2, 1) := by decide +kernel
theorem dX3_preventer_6 : decode cX3_preventer 6 = .ok (.invokestatic 52, 3) := by decide +kernel
theorem dX3_preventer_9 : decode cX3_preventer 9 = .ok (.aload_n 0, 1) := by decide +kernel
theorem dX3_preventer_10 : decode cX3_preventer 10 = .ok (.getfield 10, 3) := by decide +kernel
theorem dX3_preventer_13 : decode cX3_preventer 13 = .ok (.iload_n 1, 1) := by decide +kernel
theorem dX3_preventer_14 : decode cX3_preventer 14 = .ok (.iload_n 2, 1) := by decide +kernel
theorem dX3_preventer_15 : decode cX3_preventer 15 = .ok (.invokevirtual 55, 3) := by decide +kernel
theorem dX3_preventer_18 : decode cX3_preventer 18 = .ok (.iconst (-1), 1) := by decide +kernel
theorem dX3_preventer_19 : decode cX3_preventer 19 = .ok (.if_icmp .eq 6, 3) := by decide +kernel
theorem dX3_preventer_22 : decode cX3_preventer 22 = .ok (.bipush (-2), 2) := by decide +kernel
theorem dX3_preventer_24 : decode cX3_preventer 24 = .ok (.ireturn, 1) := by decide +kernel
theorem dX3_preventer_25 : decode cX3_preventer 25 = .ok (.aload_n 0, 1) := by decide +kernel
theorem dX3_preventer_26 : decode cX3_preventer 26 = .ok (.getfield 21, 3) := by decide +kernel
theorem dX3_preventer_29 : decode cX3_preventer 29 = .ok (.iload_n 1, 1) := by decide +kernel
theorem dX3_preventer_30 : decode cX3_preventer 30 = .ok (.iload_n 2, 1) := by decide +kernel
theorem dX3_preventer_31 : decode cX3_preventer 31 = .ok (.invokevirtual 113, 3) := by decide +kernel
theorem dX3_preventer_34 : decode cX3_preventer 34 = .ok (.ireturn, 1) := by decide +kernel
set_option maxRecDepth 20000 in
theorem ggX3_lumps_X1_pairsNotApart : GoodIn wsX3_lumps wsX1_pairsNotApart := goodIn_r _ [6, 7, 8, 9, 10, 5, 11, 12, 13, 14, 15, 16, 17, 18, 19, 20, 21, 22, 23, 24, 25, 26, 27, 28, 29, 30, 31, 32, 33, 34, 35, 36, 37, 38, 39, 40, 41, 42, 46, 47, 48, 49, 50, 51, 52, 53, 54] (by decide +kernel) (by decide +kernel)
set_option maxRecDepth 20000 in
theorem gX3_lumps_X1_pairsNotApart : GoodIn wsX3_lumps (wsV RX3 116 RX1 yX1_pairsNotApart wsX1_pairsNotApart) := goodIn_app (goodIn_of _ (by decide +kernel)) ggX3_lumps_X1_pairsNotApart
theorem dX3_lumps_0 : decode cX3_lumps 0 = .ok (.aload_n 0, 1) := by decide +kernel
theorem dX3_lumps_1 : decode cX3_lumps 1 = .ok (.getfield 21, 3) := by decide +kernel
theorem dX3_lumps_4 : decode cX3_lumps 4 = .ok (.invokevirtual 116, 3) := by decide +kernel
theorem dX3_lumps_7 : decode cX3_lumps 7 = .ok (.ireturn, 1) := by decide +kernel
set_option maxRecDepth 20000 in
theorem ggX3_leaks_X1_pairsNotPrevented : GoodIn wsX3_leaks wsX1_pairsNotPrevented := goodIn_r _ [6, 7, 8, 9, 10, 11, 12, 13, 14, 15, 16, 17, 18, 19, 20, 21, 5, 22, 23, 24, 25, 26, 27, 28, 29, 30, 31, 32, 33, 34, 35, 36, 37, 38, 39, 40, 41, 42, 43, 44, 45, 46, 47, 48, 49, 50, 51, 52, 56, 57, 58, 59, 60, 61, 62, 63, 64] (by decide +kernel) (by decide +kernel)
set_option maxRecDepth 20000 in
theorem gX3_leaks_X1_pairsNotPrevented : GoodIn wsX3_leaks (wsV RX3 119 RX1 yX1_pairsNotPrevented wsX1_pairsNotPrevented) := goodIn_app (goodIn_of _ (by decide +kernel)) ggX3_leaks_X1_pairsNotPrevented
theorem dX3_leaks_0 : decode cX3_leaks 0 = .ok (.aload_n 0, 1) := by decide +kernel
theorem dX3_leaks_1 : decode cX3_leaks 1 = .ok (.getfield 21, 3) := by decide +kernel
theorem dX3_leaks_4 : decode cX3_leaks 4 = .ok (.invokevirtual 119, 3) := by decide +kernel
theorem dX3_leaks_7 : decode cX3_leaks 7 = .ok (.ireturn, 1) := by decide +kernel
set_option maxRecDepth 20000 in
theorem ggX3_fidelity_X2_statePairs : GoodIn wsX3_fidelity wsX2_statePairs := goodIn_r _ [7, 8, 78, 79, 80, 81, 82] (by decide +kernel) (by decide +kernel)
set_option maxRecDepth 20000 in
theorem gX3_fidelity_X2_statePairs : GoodIn wsX3_fidelity (wsV RX3 122 RX2 yX2_statePairs wsX2_statePairs) := goodIn_app (goodIn_of _ (by decide +kernel)) ggX3_fidelity_X2_statePairs
set_option maxRecDepth 20000 in
theorem ggX3_fidelity_X2_stopPairs : GoodIn wsX3_fidelity wsX2_stopPairs := goodIn_r _ [12, 13, 14, 15, 6, 16, 17, 18, 19, 20, 21, 8, 22, 23, 24, 25, 26, 27, 28, 78, 79, 80, 81, 82] (by decide +kernel) (by decide +kernel)
set_option maxRecDepth 20000 in
theorem gX3_fidelity_X2_stopPairs : GoodIn wsX3_fidelity (wsV RX3 125 RX2 yX2_stopPairs wsX2_stopPairs) := goodIn_app (goodIn_of _ (by decide +kernel)) ggX3_fidelity_X2_stopPairs
set_option maxRecDepth 20000 in
theorem ggX3_fidelity_X1_pairsNotApart : GoodIn wsX3_fidelity wsX1_pairsNotApart := goodIn_r _ [33, 34, 35, 36, 37, 32, 38, 39, 40, 41, 42, 43, 44, 45, 46, 47, 48, 49, 50, 19, 20, 6, 21, 8, 51, 52, 53, 54, 55, 56, 57, 58, 17, 59, 60, 61, 62, 63, 83, 84, 85, 86, 78, 79, 80, 81, 82] (by decide +kernel) (by decide +kernel)
set_option maxRecDepth 20000 in
theorem gX3_fidelity_X1_pairsNotApart : GoodIn wsX3_fidelity (wsV RX3 116 RX1 yX1_pairsNotApart wsX1_pairsNotApart) := goodIn_app (goodIn_of _ (by decide +kernel)) ggX3_fidelity_X1_pairsNotApart
set_option maxRecDepth 20000 in
theorem ggX3_fidelity_X1_pairsNotPrevented : GoodIn wsX3_fidelity wsX1_pairsNotPrevented := goodIn_r _ [67, 34, 68, 14, 15, 6, 16, 17, 18, 19, 20, 21, 8, 69, 70, 71, 32, 72, 39, 40, 41, 42, 43, 44, 45, 46, 47, 48, 49, 50, 51, 52, 53, 54, 55, 56, 57, 58, 59, 60, 73, 74, 23, 24, 25, 26, 27, 28, 83, 84, 85, 86, 78, 79, 80, 81, 82] (by decide +kernel) (by decide +kernel)
set_option maxRecDepth 20000 in
theorem gX3_fidelity_X1_pairsNotPrevented : GoodIn wsX3_fidelity (wsV RX3 119 RX1 yX1_pairsNotPrevented wsX1_pairsNotPrevented) := goodIn_app (goodIn_of _ (by decide +kernel)) ggX3_fidelity_X1_pairsNotPrevented
theorem dX3_fidelity_0 : decode cX3_fidelity 0 = .ok (.aload_n 0, 1) := by decide +kernel
theorem dX3_fidelity_1 : decode cX3_fidelity 1 = .ok (.getfield 10, 3) := by decide +kernel
theorem dX3_fidelity_4 : decode cX3_fidelity 4 = .ok (.invokevirtual 122, 3) := by decide +kernel
theorem dX3_fidelity_7 : decode cX3_fidelity 7 = .ok (.aload_n 0, 1) := by decide +kernel
theorem dX3_fidelity_8 : decode cX3_fidelity 8 = .ok (.getfield 10, 3) := by decide +kernel
theorem dX3_fidelity_11 : decode cX3_fidelity 11 = .ok (.invokevirtual 125, 3) := by decide +kernel
theorem dX3_fidelity_14 : decode cX3_fidelity 14 = .ok (.iadd, 1) := by decide +kernel
theorem dX3_fidelity_15 : decode cX3_fidelity 15 = .ok (.istore_n 1, 1) := by decide +kernel
theorem dX3_fidelity_16 : decode cX3_fidelity 16 = .ok (.iload_n 1, 1) := by decide +kernel
theorem dX3_fidelity_17 : decode cX3_fidelity 17 = .ok (.ifCond .ne 5, 3) := by decide +kernel
theorem dX3_fidelity_20 : decode cX3_fidelity 20 = .ok (.dconst 1, 1) := by decide +kernel
theorem dX3_fidelity_21 : decode cX3_fidelity 21 = .ok (.dreturn, 1) := by decide +kernel
theorem dX3_fidelity_22 : decode cX3_fidelity 22 = .ok (.aload_n 0, 1) := by decide +kernel
theorem dX3_fidelity_23 : decode cX3_fidelity 23 = .ok (.getfield 21, 3) := by decide +kernel
theorem dX3_fidelity_26 : decode cX3_fidelity 26 = .ok (.invokevirtual 116, 3) := by decide +kernel
theorem dX3_fidelity_29 : decode cX3_fidelity 29 = .ok (.aload_n 0, 1) := by decide +kernel
theorem dX3_fidelity_30 : decode cX3_fidelity 30 = .ok (.getfield 21, 3) := by decide +kernel
theorem dX3_fidelity_33 : decode cX3_fidelity 33 = .ok (.invokevirtual 119, 3) := by decide +kernel
theorem dX3_fidelity_36 : decode cX3_fidelity 36 = .ok (.iadd, 1) := by decide +kernel
theorem dX3_fidelity_37 : decode cX3_fidelity 37 = .ok (.istore_n 2, 1) := by decide +kernel
theorem dX3_fidelity_38 : decode cX3_fidelity 38 = .ok (.dconst 1, 1) := by decide +kernel
theorem dX3_fidelity_39 : decode cX3_fidelity 39 = .ok (.iload_n 2, 1) := by decide +kernel
theorem dX3_fidelity_40 : decode cX3_fidelity 40 = .ok (.i2d, 1) := by decide +kernel
theorem dX3_fidelity_41 : decode cX3_fidelity 41 = .ok (.iload_n 1, 1) := by decide +kernel
theorem dX3_fidelity_42 : decode cX3_fidelity 42 = .ok (.i2d, 1) := by decide +kernel
theorem dX3_fidelity_43 : decode cX3_fidelity 43 = .ok (.ddiv, 1) := by decide +kernel
theorem dX3_fidelity_44 : decode cX3_fidelity 44 = .ok (.dsub, 1) := by decide +kernel
theorem dX3_fidelity_45 : decode cX3_fidelity 45 = .ok (.dreturn, 1) := by decide +kernel
set_option maxRecDepth 20000 in
theorem ggX3_makeNet_X0_make : GoodIn wsX3_makeNet wsX0_make := goodIn_r _ [6, 7, 8, 9, 10, 11, 12, 13, 14, 5, 15, 16, 17, 18, 19, 20, 21, 22, 23, 24, 25, 26, 27, 28, 29, 30, 31, 32, 33, 34, 35, 36, 37, 38, 39, 40, 41, 42, 43, 44, 45, 46, 47, 48, 49, 50, 51, 52, 53, 54, 55, 56, 57, 58, 59, 60, 61, 62, 63, 64, 65, 66, 67, 68, 69, 73, 74, 75, 76, 77, 78, 79, 80, 81, 82, 83, 84, 85, 86, 87, 88, 89, 90, 91, 92] (by decide +kernel) (by decide +kernel)
set_option maxRecDepth 20000 in
theorem gX3_makeNet_X0_make : GoodIn wsX3_makeNet (wsV RX3 132 RX0 yX0_make wsX0_make) := goodIn_app (goodIn_of _ (by decide +kernel)) ggX3_makeNet_X0_make
theorem dX3_makeNet_0 : decode cX3_makeNet 0 = .ok (.aload_n 0, 1) := by decide +kernel
theorem dX3_makeNet_1 : decode cX3_makeNet 1 = .ok (.getfield 30, 3) := by decide +kernel
theorem dX3_makeNet_4 : decode cX3_makeNet 4 = .ok (.getfield 128, 3) := by decide +kernel
theorem dX3_makeNet_7 : decode cX3_makeNet 7 = .ok (.ifCond .ne 10, 3) := by decide +kernel
theorem dX3_makeNet_10 : decode cX3_makeNet 10 = .ok (.aload_n 0, 1) := by decide +kernel
theorem dX3_makeNet_11 : decode cX3_makeNet 11 = .ok (.getfield 30, 3) := by decide +kernel
theorem dX3_makeNet_14 : decode cX3_makeNet 14 = .ok (.invokevirtual 132, 3) := by decide +kernel
theorem dX3_makeNet_17 : decode cX3_makeNet 17 = .ok (.aload_n 0, 1) := by decide +kernel
theorem dX3_makeNet_18 : decode cX3_makeNet 18 = .ok (.getfield 30, 3) := by decide +kernel
theorem dX3_makeNet_21 : decode cX3_makeNet 21 = .ok (.aload_n 0, 1) := by decide +kernel
theorem dX3_makeNet_22 : decode cX3_makeNet 22 = .ok (.getfield 30, 3) := by decide +kernel
theorem dX3_makeNet_25 : decode cX3_makeNet 25 = .ok (.getfield 135, 3) := by decide +kernel
theorem dX3_makeNet_28 : decode cX3_makeNet 28 = .ok (.putfield 138, 3) := by decide +kernel
theorem dX3_makeNet_31 : decode cX3_makeNet 31 = .ok (.aload_n 0, 1) := by decide +kernel
theorem dX3_makeNet_32 : decode cX3_makeNet 32 = .ok (.getfield 30, 3) := by decide +kernel
theorem dX3_makeNet_35 : decode cX3_makeNet 35 = .ok (.getfield 141, 3) := by decide +kernel
theorem dX3_makeNet_38 : decode cX3_makeNet 38 = .ok (.ireturn, 1) := by decide +kernel
theorem dX3_hasNet_0 : decode cX3_hasNet 0 = .ok (.aload_n 0, 1) := by decide +kernel
theorem dX3_hasNet_1 : decode cX3_hasNet 1 = .ok (.getfield 30, 3) := by decide +kernel
theorem dX3_hasNet_4 : decode cX3_hasNet 4 = .ok (.getfield 128, 3) := by decide +kernel
theorem dX3_hasNet_7 : decode cX3_hasNet 7 = .ok (.ireturn, 1) := by decide +kernel
set_option maxRecDepth 20000 in
theorem ggX3_placeRegion_X3_needNet : GoodIn wsX3_placeRegion wsX3_needNet := goodIn_ca (goodIn_r _ [8, 9, 10, 3, 17, 18, 19, 20, 21, 22, 23, 24, 25, 26, 27, 28, 29, 30] (by decide +kernel) (by decide +kernel)) (goodIn_sub (fun _ h => List.mem_cons_of_mem _ (List.mem_append_right _ h)) (by decide +kernel))
set_option maxRecDepth 20000 in
theorem gX3_placeRegion_X3_needNet : GoodIn wsX3_placeRegion (wsV RX3 144 RX3 yX3_needNet wsX3_needNet) := goodIn_app (goodIn_of _ (by decide +kernel)) ggX3_placeRegion_X3_needNet
set_option maxRecDepth 20000 in
theorem ggX3_placeRegion_X0_regionOf : GoodIn wsX3_placeRegion wsX0_regionOf := goodIn_r _ [15, 16, 20, 21, 22, 23, 24, 25, 26, 27, 28, 29, 30] (by decide +kernel) (by decide +kernel)
set_option maxRecDepth 20000 in
theorem gX3_placeRegion_X0_regionOf : GoodIn wsX3_placeRegion (wsV RX3 152 RX0 yX0_regionOf wsX0_regionOf) := goodIn_app (goodIn_of _ (by decide +kernel)) ggX3_placeRegion_X0_regionOf
theorem dX3_placeRegion_0 : decode cX3_placeRegion 0 = .ok (.aload_n 0, 1) := by decide +kernel
theorem dX3_placeRegion_1 : decode cX3_placeRegion 1 = .ok (.invokevirtual 144, 3) := by decide +kernel
theorem dX3_placeRegion_4 : decode cX3_placeRegion 4 = .ok (.iload_n 1, 1) := by decide +kernel
theorem dX3_placeRegion_5 : decode cX3_placeRegion 5 = .ok (.ifCond .lt 14, 3) := by decide +kernel
theorem dX3_placeRegion_8 : decode cX3_placeRegion 8 = .ok (.iload_n 1, 1) := by decide +kernel
theorem dX3_placeRegion_9 : decode cX3_placeRegion 9 = .ok (.aload_n 0, 1) := by decide +kernel
theorem dX3_placeRegion_10 : decode cX3_placeRegion 10 = .ok (.getfield 30, 3) := by decide +kernel
theorem dX3_placeRegion_13 : decode cX3_placeRegion 13 = .ok (.getfield 141, 3) := by decide +kernel
theorem dX3_placeRegion_16 : decode cX3_placeRegion 16 = .ok (.if_icmp .lt 13, 3) := by decide +kernel
theorem dX3_placeRegion_19 : decode cX3_placeRegion 19 = .ok (.new 147, 3) := by decide +kernel
theorem dX3_placeRegion_22 : decode cX3_placeRegion 22 = .ok (.dup, 1) := by decide +kernel
theorem dX3_placeRegion_23 : decode cX3_placeRegion 23 = .ok (.ldc 149, 2) := by decide +kernel
theorem dX3_placeRegion_25 : decode cX3_placeRegion 25 = .ok (.invokespecial 151, 3) := by decide +kernel
theorem dX3_placeRegion_28 : decode cX3_placeRegion 28 = .ok (.athrow, 1) := by decide +kernel
theorem dX3_placeRegion_29 : decode cX3_placeRegion 29 = .ok (.aload_n 0, 1) := by decide +kernel
theorem dX3_placeRegion_30 : decode cX3_placeRegion 30 = .ok (.getfield 30, 3) := by decide +kernel
theorem dX3_placeRegion_33 : decode cX3_placeRegion 33 = .ok (.iload_n 1, 1) := by decide +kernel
theorem dX3_placeRegion_34 : decode cX3_placeRegion 34 = .ok (.invokevirtual 152, 3) := by decide +kernel
theorem dX3_placeRegion_37 : decode cX3_placeRegion 37 = .ok (.ireturn, 1) := by decide +kernel
set_option maxRecDepth 20000 in
theorem ggX3_consumed_X3_needNet : GoodIn wsX3_consumed wsX3_needNet := goodIn_ca (goodIn_r _ [6, 7, 8, 1, 20, 21, 22, 23, 24, 25, 26, 27, 28, 29, 30, 31, 32, 33] (by decide +kernel) (by decide +kernel)) (goodIn_sub (fun _ h => List.mem_cons_of_mem _ (List.mem_append_left _ (List.mem_append_right _ h))) (by decide +kernel))
set_option maxRecDepth 20000 in
theorem gX3_consumed_X3_needNet : GoodIn wsX3_consumed (wsV RX3 144 RX3 yX3_needNet wsX3_needNet) := goodIn_app (goodIn_of _ (by decide +kernel)) ggX3_consumed_X3_needNet
set_option maxRecDepth 20000 in
theorem ggX3_consumed_X3_needLabel : GoodIn wsX3_consumed wsX3_needLabel := goodIn_ca (goodIn_r _ [11, 12, 13] (by decide +kernel) (by decide +kernel)) (goodIn_sub (fun _ h => List.mem_cons_of_mem _ (List.mem_append_right _ h)) (by decide +kernel))
set_option maxRecDepth 20000 in
theorem gX3_consumed_X3_needLabel : GoodIn wsX3_consumed (va_wsS RX3 52 yX3_needLabel wsX3_needLabel) := goodIn_app (goodIn_of _ (by decide +kernel)) ggX3_consumed_X3_needLabel
set_option maxRecDepth 20000 in
theorem ggX3_consumed_X0_takenBy : GoodIn wsX3_consumed wsX0_takenBy := goodIn_r _ [18, 19, 23, 24, 25, 26, 27, 28, 29, 30, 31, 32, 33] (by decide +kernel) (by decide +kernel)
set_option maxRecDepth 20000 in
theorem gX3_consumed_X0_takenBy : GoodIn wsX3_consumed (wsV RX3 155 RX0 yX0_takenBy wsX0_takenBy) := goodIn_app (goodIn_of _ (by decide +kernel)) ggX3_consumed_X0_takenBy
theorem dX3_consumed_0 : decode cX3_consumed 0 = .ok (.aload_n 0, 1) := by decide +kernel
theorem dX3_consumed_1 : decode cX3_consumed 1 = .ok (.invokevirtual 144, 3) := by decide +kernel
theorem dX3_consumed_4 : decode cX3_consumed 4 = .ok (.iload_n 1, 1) := by decide +kernel
theorem dX3_consumed_5 : decode cX3_consumed 5 = .ok (.invokestatic 52, 3) := by decide +kernel
theorem dX3_consumed_8 : decode cX3_consumed 8 = .ok (.aload_n 0, 1) := by decide +kernel
theorem dX3_consumed_9 : decode cX3_consumed 9 = .ok (.getfield 30, 3) := by decide +kernel
theorem dX3_consumed_12 : decode cX3_consumed 12 = .ok (.iload_n 1, 1) := by decide +kernel
theorem dX3_consumed_13 : decode cX3_consumed 13 = .ok (.invokevirtual 155, 3) := by decide +kernel
theorem dX3_consumed_16 : decode cX3_consumed 16 = .ok (.ireturn, 1) := by decide +kernel
set_option maxRecDepth 20000 in
theorem ggX3_produced_X3_needNet : GoodIn wsX3_produced wsX3_needNet := goodIn_ca (goodIn_r _ [6, 7, 8, 1, 20, 21, 22, 23, 24, 25, 26, 27, 28, 29, 30, 31, 32, 33] (by decide +kernel) (by decide +kernel)) (goodIn_sub (fun _ h => List.mem_cons_of_mem _ (List.mem_append_left _ (List.mem_append_right _ h))) (by decide +kernel))
set_option maxRecDepth 20000 in
theorem gX3_produced_X3_needNet : GoodIn wsX3_produced (wsV RX3 144 RX3 yX3_needNet wsX3_needNet) := goodIn_app (goodIn_of _ (by decide +kernel)) ggX3_produced_X3_needNet
set_option maxRecDepth 20000 in
theorem ggX3_produced_X3_needLabel : GoodIn wsX3_produced wsX3_needLabel := goodIn_ca (goodIn_r _ [11, 12, 13] (by decide +kernel) (by decide +kernel)) (goodIn_sub (fun _ h => List.mem_cons_of_mem _ (List.mem_append_right _ h)) (by decide +kernel))
set_option maxRecDepth 20000 in
theorem gX3_produced_X3_needLabel : GoodIn wsX3_produced (va_wsS RX3 52 yX3_needLabel wsX3_needLabel) := goodIn_app (goodIn_of _ (by decide +kernel)) ggX3_produced_X3_needLabel
set_option maxRecDepth 20000 in
theorem ggX3_produced_X0_givenBy : GoodIn wsX3_produced wsX0_givenBy := goodIn_r _ [18, 19, 23, 24, 25, 26, 27, 28, 29, 30, 31, 32, 33] (by decide +kernel) (by decide +kernel)
set_option maxRecDepth 20000 in
theorem gX3_produced_X0_givenBy : GoodIn wsX3_produced (wsV RX3 158 RX0 yX0_givenBy wsX0_givenBy) := goodIn_app (goodIn_of _ (by decide +kernel)) ggX3_produced_X0_givenBy
theorem dX3_produced_0 : decode cX3_produced 0 = .ok (.aload_n 0, 1) := by decide +kernel
theorem dX3_produced_1 : decode cX3_produced 1 = .ok (.invokevirtual 144, 3) := by decide +kernel
theorem dX3_produced_4 : decode cX3_produced 4 = .ok (.iload_n 1, 1) := by decide +kernel
theorem dX3_produced_5 : decode cX3_produced 5 = .ok (.invokestatic 52, 3) := by decide +kernel
theorem dX3_produced_8 : decode cX3_produced 8 = .ok (.aload_n 0, 1) := by decide +kernel
theorem dX3_produced_9 : decode cX3_produced 9 = .ok (.getfield 30, 3) := by decide +kernel
theorem dX3_produced_12 : decode cX3_produced 12 = .ok (.iload_n 1, 1) := by decide +kernel
theorem dX3_produced_13 : decode cX3_produced 13 = .ok (.invokevirtual 158, 3) := by decide +kernel
theorem dX3_produced_16 : decode cX3_produced 16 = .ok (.ireturn, 1) := by decide +kernel
set_option maxRecDepth 20000 in
theorem ggX3_marking_X3_needNet : GoodIn wsX3_marking wsX3_needNet := goodIn_ca (goodIn_r _ [6, 7, 8, 1, 9, 10, 11, 12, 13, 14, 15, 16, 17, 18, 19, 20, 21, 22] (by decide +kernel) (by decide +kernel)) (goodIn_sub (fun _ h => List.mem_cons_of_mem _ (List.mem_append_right _ h)) (by decide +kernel))
set_option maxRecDepth 20000 in
theorem gX3_marking_X3_needNet : GoodIn wsX3_marking (wsV RX3 144 RX3 yX3_needNet wsX3_needNet) := goodIn_app (goodIn_of _ (by decide +kernel)) ggX3_marking_X3_needNet
theorem dX3_marking_0 : decode cX3_marking 0 = .ok (.aload_n 0, 1) := by decide +kernel
theorem dX3_marking_1 : decode cX3_marking 1 = .ok (.invokevirtual 144, 3) := by decide +kernel
theorem dX3_marking_4 : decode cX3_marking 4 = .ok (.aload_n 0, 1) := by decide +kernel
theorem dX3_marking_5 : decode cX3_marking 5 = .ok (.getfield 30, 3) := by decide +kernel
theorem dX3_marking_8 : decode cX3_marking 8 = .ok (.getfield 138, 3) := by decide +kernel
theorem dX3_marking_11 : decode cX3_marking 11 = .ok (.ireturn, 1) := by decide +kernel
set_option maxRecDepth 20000 in
theorem ggX3_fire_X3_needNet : GoodIn wsX3_fire wsX3_needNet := goodIn_ca (goodIn_r _ [6, 7, 8, 1, 32, 33, 34, 35, 36, 37, 38, 39, 40, 41, 42, 43, 44, 45] (by decide +kernel) (by decide +kernel)) (goodIn_sub (fun _ h => List.mem_cons_of_mem _ (List.mem_append_left _ (List.mem_append_right _ h))) (by decide +kernel))
set_option maxRecDepth 20000 in
theorem gX3_fire_X3_needNet : GoodIn wsX3_fire (wsV RX3 144 RX3 yX3_needNet wsX3_needNet) := goodIn_app (goodIn_of _ (by decide +kernel)) ggX3_fire_X3_needNet
set_option maxRecDepth 20000 in
theorem ggX3_fire_X3_needLabel : GoodIn wsX3_fire wsX3_needLabel := goodIn_ca (goodIn_r _ [11, 12, 13] (by decide +kernel) (by decide +kernel)) (goodIn_sub (fun _ h => List.mem_cons_of_mem _ (List.mem_append_right _ h)) (by decide +kernel))
set_option maxRecDepth 20000 in
theorem gX3_fire_X3_needLabel : GoodIn wsX3_fire (va_wsS RX3 52 yX3_needLabel wsX3_needLabel) := goodIn_app (goodIn_of _ (by decide +kernel)) ggX3_fire_X3_needLabel
set_option maxRecDepth 20000 in
theorem ggX3_fire_X0_canFire : GoodIn wsX3_fire wsX0_canFire := goodIn_r _ [18, 19, 20, 21, 22, 23, 24, 25, 26, 27, 35, 36, 37, 38, 39, 40, 41, 42, 43, 44, 45, 46, 47, 48, 49, 50] (by decide +kernel) (by decide +kernel)
set_option maxRecDepth 20000 in
theorem gX3_fire_X0_canFire : GoodIn wsX3_fire (wsV RX3 161 RX0 yX0_canFire wsX0_canFire) := goodIn_app (goodIn_of _ (by decide +kernel)) ggX3_fire_X0_canFire
set_option maxRecDepth 20000 in
theorem ggX3_fire_X0_behind : GoodIn wsX3_fire wsX0_behind := goodIn_r _ [31, 20, 21, 35, 36, 37, 38, 39, 40, 41, 42, 43, 44, 45] (by decide +kernel) (by decide +kernel)
set_option maxRecDepth 20000 in
theorem gX3_fire_X0_behind : GoodIn wsX3_fire (wsV RX3 165 RX0 yX0_behind wsX0_behind) := goodIn_app (goodIn_of _ (by decide +kernel)) ggX3_fire_X0_behind
theorem dX3_fire_0 : decode cX3_fire 0 = .ok (.aload_n 0, 1) := by decide +kernel
theorem dX3_fire_1 : decode cX3_fire 1 = .ok (.invokevirtual 144, 3) := by decide +kernel
theorem dX3_fire_4 : decode cX3_fire 4 = .ok (.iload_n 1, 1) := by decide +kernel
theorem dX3_fire_5 : decode cX3_fire 5 = .ok (.invokestatic 52, 3) := by decide +kernel
theorem dX3_fire_8 : decode cX3_fire 8 = .ok (.aload_n 0, 1) := by decide +kernel
theorem dX3_fire_9 : decode cX3_fire 9 = .ok (.getfield 30, 3) := by decide +kernel
theorem dX3_fire_12 : decode cX3_fire 12 = .ok (.iload_n 1, 1) := by decide +kernel
theorem dX3_fire_13 : decode cX3_fire 13 = .ok (.aload_n 0, 1) := by decide +kernel
theorem dX3_fire_14 : decode cX3_fire 14 = .ok (.getfield 30, 3) := by decide +kernel
theorem dX3_fire_17 : decode cX3_fire 17 = .ok (.getfield 138, 3) := by decide +kernel
theorem dX3_fire_20 : decode cX3_fire 20 = .ok (.invokevirtual 161, 3) := by decide +kernel
theorem dX3_fire_23 : decode cX3_fire 23 = .ok (.ifCond .ne 5, 3) := by decide +kernel
theorem dX3_fire_26 : decode cX3_fire 26 = .ok (.iconst (-1), 1) := by decide +kernel
theorem dX3_fire_27 : decode cX3_fire 27 = .ok (.ireturn, 1) := by decide +kernel
theorem dX3_fire_28 : decode cX3_fire 28 = .ok (.aload_n 0, 1) := by decide +kernel
theorem dX3_fire_29 : decode cX3_fire 29 = .ok (.getfield 30, 3) := by decide +kernel
theorem dX3_fire_32 : decode cX3_fire 32 = .ok (.aload_n 0, 1) := by decide +kernel
theorem dX3_fire_33 : decode cX3_fire 33 = .ok (.getfield 30, 3) := by decide +kernel
theorem dX3_fire_36 : decode cX3_fire 36 = .ok (.iload_n 1, 1) := by decide +kernel
theorem dX3_fire_37 : decode cX3_fire 37 = .ok (.aload_n 0, 1) := by decide +kernel
theorem dX3_fire_38 : decode cX3_fire 38 = .ok (.getfield 30, 3) := by decide +kernel
theorem dX3_fire_41 : decode cX3_fire 41 = .ok (.getfield 138, 3) := by decide +kernel
theorem dX3_fire_44 : decode cX3_fire 44 = .ok (.invokevirtual 165, 3) := by decide +kernel
theorem dX3_fire_47 : decode cX3_fire 47 = .ok (.putfield 138, 3) := by decide +kernel
theorem dX3_fire_50 : decode cX3_fire 50 = .ok (.aload_n 0, 1) := by decide +kernel
theorem dX3_fire_51 : decode cX3_fire 51 = .ok (.getfield 30, 3) := by decide +kernel
theorem dX3_fire_54 : decode cX3_fire 54 = .ok (.getfield 138, 3) := by decide +kernel
theorem dX3_fire_57 : decode cX3_fire 57 = .ok (.ireturn, 1) := by decide +kernel
set_option maxRecDepth 20000 in
theorem ggX3_markingCount_X3_needNet : GoodIn wsX3_markingCount wsX3_needNet := goodIn_ca (goodIn_r _ [6, 7, 8, 1, 42, 43, 44, 45, 46, 47, 48, 49, 50, 51, 52, 53, 54, 55] (by decide +kernel) (by decide +kernel)) (goodIn_sub (fun _ h => List.mem_cons_of_mem _ (List.mem_append_right _ h)) (by decide +kernel))
set_option maxRecDepth 20000 in
theorem gX3_markingCount_X3_needNet : GoodIn wsX3_markingCount (wsV RX3 144 RX3 yX3_needNet wsX3_needNet) := goodIn_app (goodIn_of _ (by decide +kernel)) ggX3_markingCount_X3_needNet
set_option maxRecDepth 20000 in
theorem ggX3_markingCount_X0_markingsFound : GoodIn wsX3_markingCount wsX0_markingsFound := goodIn_r _ [13, 14, 15, 16, 17, 12, 18, 19, 20, 21, 22, 23, 24, 25, 26, 27, 28, 29, 30, 31, 32, 33, 34, 35, 36, 37, 38, 39, 40, 41, 45, 46, 47, 48, 49, 50, 51, 52, 53, 54, 55, 56, 57, 58, 59, 60] (by decide +kernel) (by decide +kernel)
set_option maxRecDepth 20000 in
theorem gX3_markingCount_X0_markingsFound : GoodIn wsX3_markingCount (wsV RX3 168 RX0 yX0_markingsFound wsX0_markingsFound) := goodIn_app (goodIn_of _ (by decide +kernel)) ggX3_markingCount_X0_markingsFound
theorem dX3_markingCount_0 : decode cX3_markingCount 0 = .ok (.aload_n 0, 1) := by decide +kernel
theorem dX3_markingCount_1 : decode cX3_markingCount 1 = .ok (.invokevirtual 144, 3) := by decide +kernel
theorem dX3_markingCount_4 : decode cX3_markingCount 4 = .ok (.aload_n 0, 1) := by decide +kernel
theorem dX3_markingCount_5 : decode cX3_markingCount 5 = .ok (.getfield 30, 3) := by decide +kernel
theorem dX3_markingCount_8 : decode cX3_markingCount 8 = .ok (.invokevirtual 168, 3) := by decide +kernel
theorem dX3_markingCount_11 : decode cX3_markingCount 11 = .ok (.ireturn, 1) := by decide +kernel
set_option maxRecDepth 20000 in
theorem ggX3_markingAt_X3_needNet : GoodIn wsX3_markingAt wsX3_needNet := goodIn_ca (goodIn_r _ [8, 9, 10, 3, 48, 49, 50, 51, 52, 53, 54, 55, 56, 57, 58, 59, 60, 61] (by decide +kernel) (by decide +kernel)) (goodIn_sub (fun _ h => List.mem_cons_of_mem _ (List.mem_append_right _ h)) (by decide +kernel))
set_option maxRecDepth 20000 in
theorem gX3_markingAt_X3_needNet : GoodIn wsX3_markingAt (wsV RX3 144 RX3 yX3_needNet wsX3_needNet) := goodIn_app (goodIn_of _ (by decide +kernel)) ggX3_markingAt_X3_needNet
set_option maxRecDepth 20000 in
theorem ggX3_markingAt_X0_markingsFound : GoodIn wsX3_markingAt wsX0_markingsFound := goodIn_r _ [15, 16, 17, 18, 19, 14, 20, 21, 22, 23, 24, 25, 26, 27, 28, 29, 30, 31, 32, 33, 34, 35, 36, 37, 38, 39, 40, 41, 42, 43, 51, 52, 53, 54, 55, 56, 57, 58, 59, 60, 61, 62, 63, 64, 65, 66] (by decide +kernel) (by decide +kernel)
set_option maxRecDepth 20000 in
theorem gX3_markingAt_X0_markingsFound : GoodIn wsX3_markingAt (wsV RX3 168 RX0 yX0_markingsFound wsX0_markingsFound) := goodIn_app (goodIn_of _ (by decide +kernel)) ggX3_markingAt_X0_markingsFound
set_option maxRecDepth 20000 in
theorem ggX3_markingAt_X0_markingFound : GoodIn wsX3_markingAt wsX0_markingFound := goodIn_r _ [47, 21, 51, 52, 53, 54, 55, 56, 57, 58, 59, 60, 61] (by decide +kernel) (by decide +kernel)
set_option maxRecDepth 20000 in
theorem gX3_markingAt_X0_markingFound : GoodIn wsX3_markingAt (wsV RX3 173 RX0 yX0_markingFound wsX0_markingFound) := goodIn_app (goodIn_of _ (by decide +kernel)) ggX3_markingAt_X0_markingFound
theorem dX3_markingAt_0 : decode cX3_markingAt 0 = .ok (.aload_n 0, 1) := by decide +kernel
theorem dX3_markingAt_1 : decode cX3_markingAt 1 = .ok (.invokevirtual 144, 3) := by decide +kernel
theorem dX3_markingAt_4 : decode cX3_markingAt 4 = .ok (.iload_n 1, 1) := by decide +kernel
theorem dX3_markingAt_5 : decode cX3_markingAt 5 = .ok (.ifCond .lt 14, 3) := by decide +kernel
theorem dX3_markingAt_8 : decode cX3_markingAt 8 = .ok (.iload_n 1, 1) := by decide +kernel
theorem dX3_markingAt_9 : decode cX3_markingAt 9 = .ok (.aload_n 0, 1) := by decide +kernel
theorem dX3_markingAt_10 : decode cX3_markingAt 10 = .ok (.getfield 30, 3) := by decide +kernel
theorem dX3_markingAt_13 : decode cX3_markingAt 13 = .ok (.invokevirtual 168, 3) := by decide +kernel
theorem dX3_markingAt_16 : decode cX3_markingAt 16 = .ok (.if_icmp .lt 13, 3) := by decide +kernel
theorem dX3_markingAt_19 : decode cX3_markingAt 19 = .ok (.new 147, 3) := by decide +kernel
theorem dX3_markingAt_22 : decode cX3_markingAt 22 = .ok (.dup, 1) := by decide +kernel
theorem dX3_markingAt_23 : decode cX3_markingAt 23 = .ok (.ldc 171, 2) := by decide +kernel
theorem dX3_markingAt_25 : decode cX3_markingAt 25 = .ok (.invokespecial 151, 3) := by decide +kernel
theorem dX3_markingAt_28 : decode cX3_markingAt 28 = .ok (.athrow, 1) := by decide +kernel
theorem dX3_markingAt_29 : decode cX3_markingAt 29 = .ok (.aload_n 0, 1) := by decide +kernel
theorem dX3_markingAt_30 : decode cX3_markingAt 30 = .ok (.getfield 30, 3) := by decide +kernel
theorem dX3_markingAt_33 : decode cX3_markingAt 33 = .ok (.iload_n 1, 1) := by decide +kernel
theorem dX3_markingAt_34 : decode cX3_markingAt 34 = .ok (.invokevirtual 173, 3) := by decide +kernel
theorem dX3_markingAt_37 : decode cX3_markingAt 37 = .ok (.ireturn, 1) := by decide +kernel
set_option maxRecDepth 20000 in
theorem ggX3_isFaithful_X3_needNet : GoodIn wsX3_isFaithful wsX3_needNet := goodIn_ca (goodIn_r _ [6, 7, 8, 1, 53, 54, 55, 56, 57, 58, 59, 60, 61, 62, 63, 64, 65, 66] (by decide +kernel) (by decide +kernel)) (goodIn_sub (fun _ h => List.mem_cons_of_mem _ (List.mem_append_right _ h)) (by decide +kernel))
set_option maxRecDepth 20000 in
theorem gX3_isFaithful_X3_needNet : GoodIn wsX3_isFaithful (wsV RX3 144 RX3 yX3_needNet wsX3_needNet) := goodIn_app (goodIn_of _ (by decide +kernel)) ggX3_isFaithful_X3_needNet
set_option maxRecDepth 20000 in
theorem ggX3_isFaithful_X0_behavesLikeSystem : GoodIn wsX3_isFaithful wsX0_behavesLikeSystem := goodIn_r _ [13, 14, 15, 16, 17, 18, 19, 20, 21, 22, 23, 24, 25, 26, 5, 27, 28, 29, 30, 12, 31, 32, 33, 34, 35, 36, 37, 38, 39, 40, 41, 42, 43, 44, 45, 46, 47, 48, 49, 50, 51, 52, 56, 57, 58, 59, 60, 61, 62, 63, 64, 65, 66, 67, 68, 69, 70, 71] (by decide +kernel) (by decide +kernel)
set_option maxRecDepth 20000 in
theorem gX3_isFaithful_X0_behavesLikeSystem : GoodIn wsX3_isFaithful (wsV RX3 176 RX0 yX0_behavesLikeSystem wsX0_behavesLikeSystem) := goodIn_app (goodIn_of _ (by decide +kernel)) ggX3_isFaithful_X0_behavesLikeSystem
theorem dX3_isFaithful_0 : decode cX3_isFaithful 0 = .ok (.aload_n 0, 1) := by decide +kernel
theorem dX3_isFaithful_1 : decode cX3_isFaithful 1 = .ok (.invokevirtual 144, 3) := by decide +kernel
theorem dX3_isFaithful_4 : decode cX3_isFaithful 4 = .ok (.aload_n 0, 1) := by decide +kernel
theorem dX3_isFaithful_5 : decode cX3_isFaithful 5 = .ok (.getfield 30, 3) := by decide +kernel
theorem dX3_isFaithful_8 : decode cX3_isFaithful 8 = .ok (.invokevirtual 176, 3) := by decide +kernel
theorem dX3_isFaithful_11 : decode cX3_isFaithful 11 = .ok (.ireturn, 1) := by decide +kernel
set_option maxRecDepth 20000 in
theorem ggX3_digest_X3_mixed : GoodIn wsX3_digest wsX3_mixed := goodIn_r _ [8, 9] (by decide +kernel) (by decide +kernel)
set_option maxRecDepth 20000 in
theorem gX3_digest_X3_mixed : GoodIn wsX3_digest (va_wsS RX3 182 yX3_mixed wsX3_mixed) := goodIn_app (goodIn_of _ (by decide +kernel)) ggX3_digest_X3_mixed
set_option maxRecDepth 20000 in
theorem ggX3_digest_X2_end : GoodIn wsX3_digest wsX2_end := goodIn_r _ [14, 15, 52, 53, 54, 55, 56] (by decide +kernel) (by decide +kernel)
set_option maxRecDepth 20000 in
theorem gX3_digest_X2_end : GoodIn wsX3_digest (wsV RX3 55 RX2 yX2_end wsX2_end) := goodIn_app (goodIn_of _ (by decide +kernel)) ggX3_digest_X2_end
set_option maxRecDepth 20000 in
theorem ggX3_digest_X1_count : GoodIn wsX3_digest wsX1_count := goodIn_r _ [20, 21, 22, 23, 24, 25, 19, 26, 27, 28, 29, 30, 31, 13, 32, 33, 34, 35, 36, 37, 38, 39, 40, 41, 42, 43, 44, 68, 69, 70, 71, 52, 53, 54, 55, 56] (by decide +kernel) (by decide +kernel)
set_option maxRecDepth 20000 in
theorem gX3_digest_X1_count : GoodIn wsX3_digest (wsV RX3 95 RX1 yX1_count wsX1_count) := goodIn_app (goodIn_of _ (by decide +kernel)) ggX3_digest_X1_count
set_option maxRecDepth 20000 in
theorem ggX3_digest_X1_at : GoodIn wsX3_digest wsX1_at := goodIn_r _ [48, 28, 68, 69, 70, 71] (by decide +kernel) (by decide +kernel)
set_option maxRecDepth 20000 in
theorem gX3_digest_X1_at : GoodIn wsX3_digest (wsV RX3 101 RX1 yX1_at wsX1_at) := goodIn_app (goodIn_of _ (by decide +kernel)) ggX3_digest_X1_at
theorem dX3_digest_0 : decode cX3_digest 0 = .ok (.ldc2_w 180, 3) := by decide +kernel
theorem dX3_digest_3 : decode cX3_digest 3 = .ok (.aload_n 0, 1) := by decide +kernel
theorem dX3_digest_4 : decode cX3_digest 4 = .ok (.getfield 10, 3) := by decide +kernel
theorem dX3_digest_7 : decode cX3_digest 7 = .ok (.getfield 34, 3) := by decide +kernel
theorem dX3_digest_10 : decode cX3_digest 10 = .ok (.invokestatic 182, 3) := by decide +kernel
theorem dX3_digest_13 : decode cX3_digest 13 = .ok (.lstore_n 1, 1) := by decide +kernel
theorem dX3_digest_14 : decode cX3_digest 14 = .ok (.iconst 0, 1) := by decide +kernel
theorem dX3_digest_15 : decode cX3_digest 15 = .ok (.istore_n 3, 1) := by decide +kernel
theorem dX3_digest_16 : decode cX3_digest 16 = .ok (.iload_n 3, 1) := by decide +kernel
theorem dX3_digest_17 : decode cX3_digest 17 = .ok (.aload_n 0, 1) := by decide +kernel
theorem dX3_digest_18 : decode cX3_digest 18 = .ok (.getfield 10, 3) := by decide +kernel
theorem dX3_digest_21 : decode cX3_digest 21 = .ok (.getfield 34, 3) := by decide +kernel
theorem dX3_digest_24 : decode cX3_digest 24 = .ok (.if_icmp .ge 40, 3) := by decide +kernel
theorem dX3_digest_27 : decode cX3_digest 27 = .ok (.iconst 0, 1) := by decide +kernel
theorem dX3_digest_28 : decode cX3_digest 28 = .ok (.istore 4, 2) := by decide +kernel
theorem dX3_digest_30 : decode cX3_digest 30 = .ok (.iload 4, 2) := by decide +kernel
theorem dX3_digest_32 : decode cX3_digest 32 = .ok (.bipush 6, 2) := by decide +kernel
theorem dX3_digest_34 : decode cX3_digest 34 = .ok (.if_icmp .ge 24, 3) := by decide +kernel
theorem dX3_digest_37 : decode cX3_digest 37 = .ok (.lload_n 1, 1) := by decide +kernel
theorem dX3_digest_38 : decode cX3_digest 38 = .ok (.aload_n 0, 1) := by decide +kernel
theorem dX3_digest_39 : decode cX3_digest 39 = .ok (.getfield 10, 3) := by decide +kernel
theorem dX3_digest_42 : decode cX3_digest 42 = .ok (.iload_n 3, 1) := by decide +kernel
theorem dX3_digest_43 : decode cX3_digest 43 = .ok (.iload 4, 2) := by decide +kernel
theorem dX3_digest_45 : decode cX3_digest 45 = .ok (.invokevirtual 55, 3) := by decide +kernel
theorem dX3_digest_48 : decode cX3_digest 48 = .ok (.invokestatic 182, 3) := by decide +kernel
theorem dX3_digest_51 : decode cX3_digest 51 = .ok (.lstore_n 1, 1) := by decide +kernel
theorem dX3_digest_52 : decode cX3_digest 52 = .ok (.iinc 4 1, 3) := by decide +kernel
theorem dX3_digest_55 : decode cX3_digest 55 = .ok (.goto (-25), 3) := by decide +kernel
theorem dX3_digest_58 : decode cX3_digest 58 = .ok (.iinc 3 1, 3) := by decide +kernel
theorem dX3_digest_61 : decode cX3_digest 61 = .ok (.goto (-45), 3) := by decide +kernel
theorem dX3_digest_64 : decode cX3_digest 64 = .ok (.aload_n 0, 1) := by decide +kernel
theorem dX3_digest_65 : decode cX3_digest 65 = .ok (.getfield 21, 3) := by decide +kernel
theorem dX3_digest_68 : decode cX3_digest 68 = .ok (.invokevirtual 95, 3) := by decide +kernel
theorem dX3_digest_71 : decode cX3_digest 71 = .ok (.istore_n 3, 1) := by decide +kernel
theorem dX3_digest_72 : decode cX3_digest 72 = .ok (.lload_n 1, 1) := by decide +kernel
theorem dX3_digest_73 : decode cX3_digest 73 = .ok (.iload_n 3, 1) := by decide +kernel
theorem dX3_digest_74 : decode cX3_digest 74 = .ok (.invokestatic 182, 3) := by decide +kernel
theorem dX3_digest_77 : decode cX3_digest 77 = .ok (.lstore_n 1, 1) := by decide +kernel
theorem dX3_digest_78 : decode cX3_digest 78 = .ok (.iconst 0, 1) := by decide +kernel
theorem dX3_digest_79 : decode cX3_digest 79 = .ok (.istore 4, 2) := by decide +kernel
theorem dX3_digest_81 : decode cX3_digest 81 = .ok (.iload 4, 2) := by decide +kernel
theorem dX3_digest_83 : decode cX3_digest 83 = .ok (.iload_n 3, 1) := by decide +kernel
theorem dX3_digest_84 : decode cX3_digest 84 = .ok (.if_icmp .ge 23, 3) := by decide +kernel
theorem dX3_digest_87 : decode cX3_digest 87 = .ok (.lload_n 1, 1) := by decide +kernel
theorem dX3_digest_88 : decode cX3_digest 88 = .ok (.aload_n 0, 1) := by decide +kernel
theorem dX3_digest_89 : decode cX3_digest 89 = .ok (.getfield 21, 3) := by decide +kernel
theorem dX3_digest_92 : decode cX3_digest 92 = .ok (.iload 4, 2) := by decide +kernel
theorem dX3_digest_94 : decode cX3_digest 94 = .ok (.invokevirtual 101, 3) := by decide +kernel
theorem dX3_digest_97 : decode cX3_digest 97 = .ok (.invokestatic 182, 3) := by decide +kernel
theorem dX3_digest_100 : decode cX3_digest 100 = .ok (.lstore_n 1, 1) := by decide +kernel
theorem dX3_digest_101 : decode cX3_digest 101 = .ok (.iinc 4 1, 3) := by decide +kernel
theorem dX3_digest_104 : decode cX3_digest 104 = .ok (.goto (-23), 3) := by decide +kernel
theorem dX3_digest_107 : decode cX3_digest 107 = .ok (.aload_n 0, 1) := by decide +kernel
theorem dX3_digest_108 : decode cX3_digest 108 = .ok (.getfield 30, 3) := by decide +kernel
theorem dX3_digest_111 : decode cX3_digest 111 = .ok (.getfield 128, 3) := by decide +kernel
theorem dX3_digest_114 : decode cX3_digest 114 = .ok (.ifCond .eq 27, 3) := by decide +kernel
theorem dX3_digest_117 : decode cX3_digest 117 = .ok (.lload_n 1, 1) := by decide +kernel
theorem dX3_digest_118 : decode cX3_digest 118 = .ok (.aload_n 0, 1) := by decide +kernel
theorem dX3_digest_119 : decode cX3_digest 119 = .ok (.getfield 30, 3) := by decide +kernel
theorem dX3_digest_122 : decode cX3_digest 122 = .ok (.getfield 141, 3) := by decide +kernel
theorem dX3_digest_125 : decode cX3_digest 125 = .ok (.invokestatic 182, 3) := by decide +kernel
theorem dX3_digest_128 : decode cX3_digest 128 = .ok (.lstore_n 1, 1) := by decide +kernel
theorem dX3_digest_129 : decode cX3_digest 129 = .ok (.lload_n 1, 1) := by decide +kernel
theorem dX3_digest_130 : decode cX3_digest 130 = .ok (.aload_n 0, 1) := by decide +kernel
theorem dX3_digest_131 : decode cX3_digest 131 = .ok (.getfield 30, 3) := by decide +kernel
theorem dX3_digest_134 : decode cX3_digest 134 = .ok (.getfield 138, 3) := by decide +kernel
theorem dX3_digest_137 : decode cX3_digest 137 = .ok (.invokestatic 182, 3) := by decide +kernel
theorem dX3_digest_140 : decode cX3_digest 140 = .ok (.lstore_n 1, 1) := by decide +kernel
theorem dX3_digest_141 : decode cX3_digest 141 = .ok (.lload_n 1, 1) := by decide +kernel
theorem dX3_digest_142 : decode cX3_digest 142 = .ok (.lreturn, 1) := by decide +kernel
theorem dX3_mixed_0 : decode cX3_mixed 0 = .ok (.lload_n 0, 1) := by decide +kernel
theorem dX3_mixed_1 : decode cX3_mixed 1 = .ok (.ldc2_w 186, 3) := by decide +kernel
theorem dX3_mixed_4 : decode cX3_mixed 4 = .ok (.lmul, 1) := by decide +kernel
theorem dX3_mixed_5 : decode cX3_mixed 5 = .ok (.iload_n 2, 1) := by decide +kernel
theorem dX3_mixed_6 : decode cX3_mixed 6 = .ok (.i2l, 1) := by decide +kernel
theorem dX3_mixed_7 : decode cX3_mixed 7 = .ok (.ladd, 1) := by decide +kernel
theorem dX3_mixed_8 : decode cX3_mixed 8 = .ok (.lreturn, 1) := by decide +kernel
theorem dX3_changed_0 : decode cX3_changed 0 = .ok (.aload_n 0, 1) := by decide +kernel
theorem dX3_changed_1 : decode cX3_changed 1 = .ok (.getfield 21, 3) := by decide +kernel
theorem dX3_changed_4 : decode cX3_changed 4 = .ok (.iconst 0, 1) := by decide +kernel
theorem dX3_changed_5 : decode cX3_changed 5 = .ok (.putfield 188, 3) := by decide +kernel
theorem dX3_changed_8 : decode cX3_changed 8 = .ok (.aload_n 0, 1) := by decide +kernel
theorem dX3_changed_9 : decode cX3_changed 9 = .ok (.getfield 30, 3) := by decide +kernel
theorem dX3_changed_12 : decode cX3_changed 12 = .ok (.iconst 0, 1) := by decide +kernel
theorem dX3_changed_13 : decode cX3_changed 13 = .ok (.putfield 128, 3) := by decide +kernel
theorem dX3_changed_16 : decode cX3_changed 16 = .ok (.return_, 1) := by decide +kernel
theorem dX3_needState_0 : decode cX3_needState 0 = .ok (.iload_n 1, 1) := by decide +kernel
theorem dX3_needState_1 : decode cX3_needState 1 = .ok (.ifCond .lt 14, 3) := by decide +kernel
theorem dX3_needState_4 : decode cX3_needState 4 = .ok (.iload_n 1, 1) := by decide +kernel
theorem dX3_needState_5 : decode cX3_needState 5 = .ok (.aload_n 0, 1) := by decide +kernel
theorem dX3_needState_6 : decode cX3_needState 6 = .ok (.getfield 10, 3) := by decide +kernel
theorem dX3_needState_9 : decode cX3_needState 9 = .ok (.getfield 34, 3) := by decide +kernel
theorem dX3_needState_12 : decode cX3_needState 12 = .ok (.if_icmp .lt 13, 3) := by decide +kernel
theorem dX3_needState_15 : decode cX3_needState 15 = .ok (.new 147, 3) := by decide +kernel
theorem dX3_needState_18 : decode cX3_needState 18 = .ok (.dup, 1) := by decide +kernel
theorem dX3_needState_19 : decode cX3_needState 19 = .ok (.ldc 191, 2) := by decide +kernel
theorem dX3_needState_21 : decode cX3_needState 21 = .ok (.invokespecial 151, 3) := by decide +kernel
theorem dX3_needState_24 : decode cX3_needState 24 = .ok (.athrow, 1) := by decide +kernel
theorem dX3_needState_25 : decode cX3_needState 25 = .ok (.return_, 1) := by decide +kernel
theorem dX3_needLabel_0 : decode cX3_needLabel 0 = .ok (.iload_n 0, 1) := by decide +kernel
theorem dX3_needLabel_1 : decode cX3_needLabel 1 = .ok (.ifCond .lt 9, 3) := by decide +kernel
theorem dX3_needLabel_4 : decode cX3_needLabel 4 = .ok (.iload_n 0, 1) := by decide +kernel
theorem dX3_needLabel_5 : decode cX3_needLabel 5 = .ok (.bipush 6, 2) := by decide +kernel
theorem dX3_needLabel_7 : decode cX3_needLabel 7 = .ok (.if_icmp .lt 13, 3) := by decide +kernel
theorem dX3_needLabel_10 : decode cX3_needLabel 10 = .ok (.new 147, 3) := by decide +kernel
theorem dX3_needLabel_13 : decode cX3_needLabel 13 = .ok (.dup, 1) := by decide +kernel
theorem dX3_needLabel_14 : decode cX3_needLabel 14 = .ok (.ldc 193, 2) := by decide +kernel
theorem dX3_needLabel_16 : decode cX3_needLabel 16 = .ok (.invokespecial 151, 3) := by decide +kernel
theorem dX3_needLabel_19 : decode cX3_needLabel 19 = .ok (.athrow, 1) := by decide +kernel
theorem dX3_needLabel_20 : decode cX3_needLabel 20 = .ok (.return_, 1) := by decide +kernel
set_option maxRecDepth 20000 in
theorem ggX3_needSet_X2_all : GoodIn wsX3_needSet wsX2_all := goodIn_r _ [8, 9, 13, 14, 15, 16, 17] (by decide +kernel) (by decide +kernel)
set_option maxRecDepth 20000 in
theorem gX3_needSet_X2_all : GoodIn wsX3_needSet (wsV RX3 195 RX2 yX2_all wsX2_all) := goodIn_app (goodIn_of _ (by decide +kernel)) ggX3_needSet_X2_all
theorem dX3_needSet_0 : decode cX3_needSet 0 = .ok (.iload_n 1, 1) := by decide +kernel
theorem dX3_needSet_1 : decode cX3_needSet 1 = .ok (.ifCond .lt 14, 3) := by decide +kernel
theorem dX3_needSet_4 : decode cX3_needSet 4 = .ok (.iload_n 1, 1) := by decide +kernel
theorem dX3_needSet_5 : decode cX3_needSet 5 = .ok (.aload_n 0, 1) := by decide +kernel
theorem dX3_needSet_6 : decode cX3_needSet 6 = .ok (.getfield 10, 3) := by decide +kernel
theorem dX3_needSet_9 : decode cX3_needSet 9 = .ok (.invokevirtual 195, 3) := by decide +kernel
theorem dX3_needSet_12 : decode cX3_needSet 12 = .ok (.if_icmp .le 13, 3) := by decide +kernel
theorem dX3_needSet_15 : decode cX3_needSet 15 = .ok (.new 198, 3) := by decide +kernel
theorem dX3_needSet_18 : decode cX3_needSet 18 = .ok (.dup, 1) := by decide +kernel
theorem dX3_needSet_19 : decode cX3_needSet 19 = .ok (.ldc 200, 2) := by decide +kernel
theorem dX3_needSet_21 : decode cX3_needSet 21 = .ok (.invokespecial 202, 3) := by decide +kernel
theorem dX3_needSet_24 : decode cX3_needSet 24 = .ok (.athrow, 1) := by decide +kernel
theorem dX3_needSet_25 : decode cX3_needSet 25 = .ok (.return_, 1) := by decide +kernel
set_option maxRecDepth 20000 in
theorem ggX3_needRegion_X1_count : GoodIn wsX3_needRegion wsX1_count := goodIn_r _ [8, 9, 10, 11, 12, 13, 7, 14, 15, 16, 17, 18, 19, 20, 21, 22, 23, 24, 25, 26, 27, 28, 29, 30, 31, 32, 33, 37, 38, 39, 40, 41, 42, 43, 44, 45] (by decide +kernel) (by decide +kernel)
set_option maxRecDepth 20000 in
theorem gX3_needRegion_X1_count : GoodIn wsX3_needRegion (wsV RX3 95 RX1 yX1_count wsX1_count) := goodIn_app (goodIn_of _ (by decide +kernel)) ggX3_needRegion_X1_count
theorem dX3_needRegion_0 : decode cX3_needRegion 0 = .ok (.iload_n 1, 1) := by decide +kernel
theorem dX3_needRegion_1 : decode cX3_needRegion 1 = .ok (.ifCond .lt 14, 3) := by decide +kernel
theorem dX3_needRegion_4 : decode cX3_needRegion 4 = .ok (.iload_n 1, 1) := by decide +kernel
theorem dX3_needRegion_5 : decode cX3_needRegion 5 = .ok (.aload_n 0, 1) := by decide +kernel
theorem dX3_needRegion_6 : decode cX3_needRegion 6 = .ok (.getfield 21, 3) := by decide +kernel
theorem dX3_needRegion_9 : decode cX3_needRegion 9 = .ok (.invokevirtual 95, 3) := by decide +kernel
theorem dX3_needRegion_12 : decode cX3_needRegion 12 = .ok (.if_icmp .lt 13, 3) := by decide +kernel
theorem dX3_needRegion_15 : decode cX3_needRegion 15 = .ok (.new 147, 3) := by decide +kernel
theorem dX3_needRegion_18 : decode cX3_needRegion 18 = .ok (.dup, 1) := by decide +kernel
theorem dX3_needRegion_19 : decode cX3_needRegion 19 = .ok (.ldc 203, 2) := by decide +kernel
theorem dX3_needRegion_21 : decode cX3_needRegion 21 = .ok (.invokespecial 151, 3) := by decide +kernel
theorem dX3_needRegion_24 : decode cX3_needRegion 24 = .ok (.athrow, 1) := by decide +kernel
theorem dX3_needRegion_25 : decode cX3_needRegion 25 = .ok (.return_, 1) := by decide +kernel
theorem dX3_needNet_0 : decode cX3_needNet 0 = .ok (.aload_n 0, 1) := by decide +kernel
theorem dX3_needNet_1 : decode cX3_needNet 1 = .ok (.getfield 30, 3) := by decide +kernel
theorem dX3_needNet_4 : decode cX3_needNet 4 = .ok (.getfield 128, 3) := by decide +kernel
theorem dX3_needNet_7 : decode cX3_needNet 7 = .ok (.ifCond .ne 13, 3) := by decide +kernel
theorem dX3_needNet_10 : decode cX3_needNet 10 = .ok (.new 38, 3) := by decide +kernel
theorem dX3_needNet_13 : decode cX3_needNet 13 = .ok (.dup, 1) := by decide +kernel
theorem dX3_needNet_14 : decode cX3_needNet 14 = .ok (.ldc 205, 2) := by decide +kernel
theorem dX3_needNet_16 : decode cX3_needNet 16 = .ok (.invokespecial 42, 3) := by decide +kernel
theorem dX3_needNet_19 : decode cX3_needNet 19 = .ok (.athrow, 1) := by decide +kernel
theorem dX3_needNet_20 : decode cX3_needNet 20 = .ok (.return_, 1) := by decide +kernel
theorem dX3_has_0 : decode cX3_has 0 = .ok (.iload_n 0, 1) := by decide +kernel
theorem dX3_has_1 : decode cX3_has 1 = .ok (.iload_n 1, 1) := by decide +kernel
theorem dX3_has_2 : decode cX3_has 2 = .ok (.ishr, 1) := by decide +kernel
theorem dX3_has_3 : decode cX3_has 3 = .ok (.iconst 1, 1) := by decide +kernel
theorem dX3_has_4 : decode cX3_has 4 = .ok (.iand, 1) := by decide +kernel
theorem dX3_has_5 : decode cX3_has 5 = .ok (.ifCond .eq 7, 3) := by decide +kernel
theorem dX3_has_8 : decode cX3_has 8 = .ok (.iconst 1, 1) := by decide +kernel
theorem dX3_has_9 : decode cX3_has 9 = .ok (.goto 4, 3) := by decide +kernel
theorem dX3_has_12 : decode cX3_has 12 = .ok (.iconst 0, 1) := by decide +kernel
theorem dX3_has_13 : decode cX3_has 13 = .ok (.ireturn, 1) := by decide +kernel
theorem dX4_init_0 : decode cX4_init 0 = .ok (.aload_n 0, 1) := by decide +kernel
theorem dX4_init_1 : decode cX4_init 1 = .ok (.invokespecial 3, 3) := by decide +kernel
theorem dX4_init_4 : decode cX4_init 4 = .ok (.aload_n 0, 1) := by decide +kernel
theorem dX4_init_5 : decode cX4_init 5 = .ok (.iconst 1, 1) := by decide +kernel
theorem dX4_init_6 : decode cX4_init 6 = .ok (.putfield 9, 3) := by decide +kernel
theorem dX4_init_9 : decode cX4_init 9 = .ok (.aload_n 0, 1) := by decide +kernel
theorem dX4_init_10 : decode cX4_init 10 = .ok (.bipush 72, 2) := by decide +kernel
theorem dX4_init_12 : decode cX4_init 12 = .ok (.newarray .int, 2) := by decide +kernel
theorem dX4_init_14 : decode cX4_init 14 = .ok (.putfield 13, 3) := by decide +kernel
theorem dX4_init_17 : decode cX4_init 17 = .ok (.aload_n 0, 1) := by decide +kernel
theorem dX4_init_18 : decode cX4_init 18 = .ok (.sipush 4096, 3) := by decide +kernel
theorem dX4_init_21 : decode cX4_init 21 = .ok (.newarray .int, 2) := by decide +kernel
theorem dX4_init_23 : decode cX4_init 23 = .ok (.putfield 17, 3) := by decide +kernel
theorem dX4_init_26 : decode cX4_init 26 = .ok (.aload_n 0, 1) := by decide +kernel
theorem dX4_init_27 : decode cX4_init 27 = .ok (.bipush 30, 2) := by decide +kernel
theorem dX4_init_29 : decode cX4_init 29 = .ok (.newarray .int, 2) := by decide +kernel
theorem dX4_init_31 : decode cX4_init 31 = .ok (.putfield 20, 3) := by decide +kernel
theorem dX4_init_34 : decode cX4_init 34 = .ok (.aload_n 0, 1) := by decide +kernel
theorem dX4_init_35 : decode cX4_init 35 = .ok (.sipush 200, 3) := by decide +kernel
theorem dX4_init_38 : decode cX4_init 38 = .ok (.newarray .int, 2) := by decide +kernel
theorem dX4_init_40 : decode cX4_init 40 = .ok (.putfield 23, 3) := by decide +kernel
theorem dX4_init_43 : decode cX4_init 43 = .ok (.iconst 0, 1) := by decide +kernel
theorem dX4_init_44 : decode cX4_init 44 = .ok (.istore_n 1, 1) := by decide +kernel
theorem dX4_init_45 : decode cX4_init 45 = .ok (.iload_n 1, 1) := by decide +kernel
theorem dX4_init_46 : decode cX4_init 46 = .ok (.bipush 72, 2) := by decide +kernel
theorem dX4_init_48 : decode cX4_init 48 = .ok (.if_icmp .ge 16, 3) := by decide +kernel
theorem dX4_init_51 : decode cX4_init 51 = .ok (.aload_n 0, 1) := by decide +kernel
theorem dX4_init_52 : decode cX4_init 52 = .ok (.getfield 13, 3) := by decide +kernel
theorem dX4_init_55 : decode cX4_init 55 = .ok (.iload_n 1, 1) := by decide +kernel
theorem dX4_init_56 : decode cX4_init 56 = .ok (.iconst (-1), 1) := by decide +kernel
theorem dX4_init_57 : decode cX4_init 57 = .ok (.iastore, 1) := by decide +kernel
theorem dX4_init_58 : decode cX4_init 58 = .ok (.iinc 1 1, 3) := by decide +kernel
theorem dX4_init_61 : decode cX4_init 61 = .ok (.goto (-16), 3) := by decide +kernel
theorem dX4_init_64 : decode cX4_init 64 = .ok (.return_, 1) := by decide +kernel
theorem dX4_thrown_0 : decode cX4_thrown 0 = .ok (.aload_n 0, 1) := by decide +kernel
theorem dX4_thrown_1 : decode cX4_thrown 1 = .ok (.getfield 26, 3) := by decide +kernel
theorem dX4_thrown_4 : decode cX4_thrown 4 = .ok (.ireturn, 1) := by decide +kernel
theorem dX4_fail_0 : decode cX4_fail 0 = .ok (.aload_n 0, 1) := by decide +kernel
theorem dX4_fail_1 : decode cX4_fail 1 = .ok (.iload_n 1, 1) := by decide +kernel
theorem dX4_fail_2 : decode cX4_fail 2 = .ok (.putfield 26, 3) := by decide +kernel
theorem dX4_fail_5 : decode cX4_fail 5 = .ok (.iconst 0, 1) := by decide +kernel
theorem dX4_fail_6 : decode cX4_fail 6 = .ok (.ireturn, 1) := by decide +kernel
theorem dX4_isState_0 : decode cX4_isState 0 = .ok (.iload_n 1, 1) := by decide +kernel
theorem dX4_isState_1 : decode cX4_isState 1 = .ok (.ifCond .lt 15, 3) := by decide +kernel
theorem dX4_isState_4 : decode cX4_isState 4 = .ok (.iload_n 1, 1) := by decide +kernel
theorem dX4_isState_5 : decode cX4_isState 5 = .ok (.aload_n 0, 1) := by decide +kernel
theorem dX4_isState_6 : decode cX4_isState 6 = .ok (.getfield 9, 3) := by decide +kernel
theorem dX4_isState_9 : decode cX4_isState 9 = .ok (.if_icmp .ge 7, 3) := by decide +kernel
theorem dX4_isState_12 : decode cX4_isState 12 = .ok (.iconst 1, 1) := by decide +kernel
theorem dX4_isState_13 : decode cX4_isState 13 = .ok (.goto 4, 3) := by decide +kernel
theorem dX4_isState_16 : decode cX4_isState 16 = .ok (.iconst 0, 1) := by decide +kernel
theorem dX4_isState_17 : decode cX4_isState 17 = .ok (.ireturn, 1) := by decide +kernel
theorem dX4_isLabel_0 : decode cX4_isLabel 0 = .ok (.iload_n 0, 1) := by decide +kernel
theorem dX4_isLabel_1 : decode cX4_isLabel 1 = .ok (.ifCond .lt 13, 3) := by decide +kernel
theorem dX4_isLabel_4 : decode cX4_isLabel 4 = .ok (.iload_n 0, 1) := by decide +kernel
theorem dX4_isLabel_5 : decode cX4_isLabel 5 = .ok (.bipush 6, 2) := by decide +kernel
theorem dX4_isLabel_7 : decode cX4_isLabel 7 = .ok (.if_icmp .ge 7, 3) := by decide +kernel
theorem dX4_isLabel_10 : decode cX4_isLabel 10 = .ok (.iconst 1, 1) := by decide +kernel
theorem dX4_isLabel_11 : decode cX4_isLabel 11 = .ok (.goto 4, 3) := by decide +kernel
theorem dX4_isLabel_14 : decode cX4_isLabel 14 = .ok (.iconst 0, 1) := by decide +kernel
theorem dX4_isLabel_15 : decode cX4_isLabel 15 = .ok (.ireturn, 1) := by decide +kernel
theorem dX4_isSet_0 : decode cX4_isSet 0 = .ok (.iload_n 1, 1) := by decide +kernel
theorem dX4_isSet_1 : decode cX4_isSet 1 = .ok (.ifCond .lt 17, 3) := by decide +kernel
theorem dX4_isSet_4 : decode cX4_isSet 4 = .ok (.iload_n 1, 1) := by decide +kernel
theorem dX4_isSet_5 : decode cX4_isSet 5 = .ok (.iconst 1, 1) := by decide +kernel
theorem dX4_isSet_6 : decode cX4_isSet 6 = .ok (.aload_n 0, 1) := by decide +kernel
theorem dX4_isSet_7 : decode cX4_isSet 7 = .ok (.getfield 9, 3) := by decide +kernel
theorem dX4_isSet_10 : decode cX4_isSet 10 = .ok (.ishl, 1) := by decide +kernel
theorem dX4_isSet_11 : decode cX4_isSet 11 = .ok (.if_icmp .ge 7, 3) := by decide +kernel
theorem dX4_isSet_14 : decode cX4_isSet 14 = .ok (.iconst 1, 1) := by decide +kernel
theorem dX4_isSet_15 : decode cX4_isSet 15 = .ok (.goto 4, 3) := by decide +kernel
theorem dX4_isSet_18 : decode cX4_isSet 18 = .ok (.iconst 0, 1) := by decide +kernel
theorem dX4_isSet_19 : decode cX4_isSet 19 = .ok (.ireturn, 1) := by decide +kernel
theorem dX4_has_0 : decode cX4_has 0 = .ok (.iload_n 0, 1) := by decide +kernel
theorem dX4_has_1 : decode cX4_has 1 = .ok (.iload_n 1, 1) := by decide +kernel
theorem dX4_has_2 : decode cX4_has 2 = .ok (.ishr, 1) := by decide +kernel
theorem dX4_has_3 : decode cX4_has 3 = .ok (.iconst 1, 1) := by decide +kernel
theorem dX4_has_4 : decode cX4_has 4 = .ok (.iand, 1) := by decide +kernel
theorem dX4_has_5 : decode cX4_has 5 = .ok (.iconst 1, 1) := by decide +kernel
theorem dX4_has_6 : decode cX4_has 6 = .ok (.if_icmp .ne 7, 3) := by decide +kernel
theorem dX4_has_9 : decode cX4_has 9 = .ok (.iconst 1, 1) := by decide +kernel
theorem dX4_has_10 : decode cX4_has 10 = .ok (.goto 4, 3) := by decide +kernel
theorem dX4_has_13 : decode cX4_has 13 = .ok (.iconst 0, 1) := by decide +kernel
theorem dX4_has_14 : decode cX4_has 14 = .ok (.ireturn, 1) := by decide +kernel
theorem dX4_to_0 : decode cX4_to 0 = .ok (.aload_n 0, 1) := by decide +kernel
theorem dX4_to_1 : decode cX4_to 1 = .ok (.getfield 13, 3) := by decide +kernel
theorem dX4_to_4 : decode cX4_to 4 = .ok (.bipush 6, 2) := by decide +kernel
theorem dX4_to_6 : decode cX4_to 6 = .ok (.iload_n 1, 1) := by decide +kernel
theorem dX4_to_7 : decode cX4_to 7 = .ok (.imul, 1) := by decide +kernel
theorem dX4_to_8 : decode cX4_to 8 = .ok (.iload_n 2, 1) := by decide +kernel
theorem dX4_to_9 : decode cX4_to 9 = .ok (.iadd, 1) := by decide +kernel
theorem dX4_to_10 : decode cX4_to 10 = .ok (.iaload, 1) := by decide +kernel
theorem dX4_to_11 : decode cX4_to 11 = .ok (.ireturn, 1) := by decide +kernel
theorem dX4_change_0 : decode cX4_change 0 = .ok (.aload_n 0, 1) := by decide +kernel
theorem dX4_change_1 : decode cX4_change 1 = .ok (.iconst 0, 1) := by decide +kernel
theorem dX4_change_2 : decode cX4_change 2 = .ok (.putfield 29, 3) := by decide +kernel
theorem dX4_change_5 : decode cX4_change 5 = .ok (.aload_n 0, 1) := by decide +kernel
theorem dX4_change_6 : decode cX4_change 6 = .ok (.iconst 0, 1) := by decide +kernel
theorem dX4_change_7 : decode cX4_change 7 = .ok (.putfield 33, 3) := by decide +kernel
theorem dX4_change_10 : decode cX4_change 10 = .ok (.return_, 1) := by decide +kernel
set_option maxRecDepth 20000 in
theorem ggX4_addState_X4_fail : GoodIn wsX4_addState wsX4_fail := goodIn_r _ [7, 1, 14, 15, 16, 17, 18, 19, 20, 21, 22, 23, 24, 25] (by decide +kernel) (by decide +kernel)
set_option maxRecDepth 20000 in
theorem gX4_addState_X4_fail : GoodIn wsX4_addState (wsV RX4 36 RX4 yX4_fail wsX4_fail) := goodIn_app (goodIn_of _ (by decide +kernel)) ggX4_addState_X4_fail
set_option maxRecDepth 20000 in
theorem ggX4_addState_X4_change : GoodIn wsX4_addState wsX4_change := goodIn_r _ [11, 12, 13, 14, 15, 16, 17, 18, 19, 20, 21, 22, 23, 24, 25] (by decide +kernel) (by decide +kernel)
set_option maxRecDepth 20000 in
theorem gX4_addState_X4_change : GoodIn wsX4_addState (wsV RX4 40 RX4 yX4_change wsX4_change) := goodIn_app (goodIn_of _ (by decide +kernel)) ggX4_addState_X4_change
theorem dX4_addState_0 : decode cX4_addState 0 = .ok (.aload_n 0, 1) := by decide +kernel
theorem dX4_addState_1 : decode cX4_addState 1 = .ok (.iconst 0, 1) := by decide +kernel
theorem dX4_addState_2 : decode cX4_addState 2 = .ok (.putfield 26, 3) := by decide +kernel
theorem dX4_addState_5 : decode cX4_addState 5 = .ok (.aload_n 0, 1) := by decide +kernel
theorem dX4_addState_6 : decode cX4_addState 6 = .ok (.getfield 9, 3) := by decide +kernel
theorem dX4_addState_9 : decode cX4_addState 9 = .ok (.bipush 12, 2) := by decide +kernel
theorem dX4_addState_11 : decode cX4_addState 11 = .ok (.if_icmp .ne 9, 3) := by decide +kernel
theorem dX4_addState_14 : decode cX4_addState 14 = .ok (.aload_n 0, 1) := by decide +kernel
theorem dX4_addState_15 : decode cX4_addState 15 = .ok (.iconst 1, 1) := by decide +kernel
theorem dX4_addState_16 : decode cX4_addState 16 = .ok (.invokevirtual 36, 3) := by decide +kernel
theorem dX4_addState_19 : decode cX4_addState 19 = .ok (.ireturn, 1) := by decide +kernel
theorem dX4_addState_20 : decode cX4_addState 20 = .ok (.aload_n 0, 1) := by decide +kernel
theorem dX4_addState_21 : decode cX4_addState 21 = .ok (.dup, 1) := by decide +kernel
theorem dX4_addState_22 : decode cX4_addState 22 = .ok (.getfield 9, 3) := by decide +kernel
theorem dX4_addState_25 : decode cX4_addState 25 = .ok (.iconst 1, 1) := by decide +kernel
theorem dX4_addState_26 : decode cX4_addState 26 = .ok (.iadd, 1) := by decide +kernel
theorem dX4_addState_27 : decode cX4_addState 27 = .ok (.putfield 9, 3) := by decide +kernel
theorem dX4_addState_30 : decode cX4_addState 30 = .ok (.aload_n 0, 1) := by decide +kernel
theorem dX4_addState_31 : decode cX4_addState 31 = .ok (.invokevirtual 40, 3) := by decide +kernel
theorem dX4_addState_34 : decode cX4_addState 34 = .ok (.aload_n 0, 1) := by decide +kernel
theorem dX4_addState_35 : decode cX4_addState 35 = .ok (.getfield 9, 3) := by decide +kernel
theorem dX4_addState_38 : decode cX4_addState 38 = .ok (.iconst 1, 1) := by decide +kernel
theorem dX4_addState_39 : decode cX4_addState 39 = .ok (.isub, 1) := by decide +kernel
theorem dX4_addState_40 : decode cX4_addState 40 = .ok (.ireturn, 1) := by decide +kernel
set_option maxRecDepth 20000 in
theorem ggX4_step_X4_isState : GoodIn wsX4_step wsX4_isState := goodIn_r _ [7, 8, 26, 27, 28, 29, 30, 31, 32, 33, 34, 35, 36, 37] (by decide +kernel) (by decide +kernel)
set_option maxRecDepth 20000 in
theorem gX4_step_X4_isState : GoodIn wsX4_step (wsV RX4 43 RX4 yX4_isState wsX4_isState) := goodIn_app (goodIn_of _ (by decide +kernel)) ggX4_step_X4_isState
set_option maxRecDepth 20000 in
theorem ggX4_step_X4_isLabel : GoodIn wsX4_step wsX4_isLabel := goodIn_r _ [11] (by decide +kernel) (by decide +kernel)
set_option maxRecDepth 20000 in
theorem gX4_step_X4_isLabel : GoodIn wsX4_step (va_wsS RX4 47 yX4_isLabel wsX4_isLabel) := goodIn_app (goodIn_of _ (by decide +kernel)) ggX4_step_X4_isLabel
set_option maxRecDepth 20000 in
theorem ggX4_step_X4_fail : GoodIn wsX4_step wsX4_fail := goodIn_r _ [15, 1, 26, 27, 28, 29, 30, 31, 32, 33, 34, 35, 36, 37] (by decide +kernel) (by decide +kernel)
set_option maxRecDepth 20000 in
theorem gX4_step_X4_fail : GoodIn wsX4_step (wsV RX4 36 RX4 yX4_fail wsX4_fail) := goodIn_app (goodIn_of _ (by decide +kernel)) ggX4_step_X4_fail
set_option maxRecDepth 20000 in
theorem ggX4_step_X4_to : GoodIn wsX4_step wsX4_to := goodIn_r _ [19, 2, 26, 27, 28, 29, 30, 31, 32, 33, 34, 35, 36, 37] (by decide +kernel) (by decide +kernel)
set_option maxRecDepth 20000 in
theorem gX4_step_X4_to : GoodIn wsX4_step (wsV RX4 50 RX4 yX4_to wsX4_to) := goodIn_app (goodIn_of _ (by decide +kernel)) ggX4_step_X4_to
set_option maxRecDepth 20000 in
theorem ggX4_step_X4_change : GoodIn wsX4_step wsX4_change := goodIn_r _ [23, 24, 25, 26, 27, 28, 29, 30, 31, 32, 33, 34, 35, 36, 37] (by decide +kernel) (by decide +kernel)
set_option maxRecDepth 20000 in
theorem gX4_step_X4_change : GoodIn wsX4_step (wsV RX4 40 RX4 yX4_change wsX4_change) := goodIn_app (goodIn_of _ (by decide +kernel)) ggX4_step_X4_change
theorem dX4_step_0 : decode cX4_step 0 = .ok (.aload_n 0, 1) := by decide +kernel
theorem dX4_step_1 : decode cX4_step 1 = .ok (.iconst 0, 1) := by decide +kernel
theorem dX4_step_2 : decode cX4_step 2 = .ok (.putfield 26, 3) := by decide +kernel
theorem dX4_step_5 : decode cX4_step 5 = .ok (.aload_n 0, 1) := by decide +kernel
theorem dX4_step_6 : decode cX4_step 6 = .ok (.iload_n 1, 1) := by decide +kernel
theorem dX4_step_7 : decode cX4_step 7 = .ok (.invokevirtual 43, 3) := by decide +kernel
theorem dX4_step_10 : decode cX4_step 10 = .ok (.ifCond .eq 18, 3) := by decide +kernel
theorem dX4_step_13 : decode cX4_step 13 = .ok (.iload_n 2, 1) := by decide +kernel
theorem dX4_step_14 : decode cX4_step 14 = .ok (.invokestatic 47, 3) := by decide +kernel
theorem dX4_step_17 : decode cX4_step 17 = .ok (.ifCond .eq 11, 3) := by decide +kernel
theorem dX4_step_20 : decode cX4_step 20 = .ok (.aload_n 0, 1) := by decide +kernel
theorem dX4_step_21 : decode cX4_step 21 = .ok (.iload_n 3, 1) := by decide +kernel
theorem dX4_step_22 : decode cX4_step 22 = .ok (.invokevirtual 43, 3) := by decide +kernel
theorem dX4_step_25 : decode cX4_step 25 = .ok (.ifCond .ne 9, 3) := by decide +kernel
theorem dX4_step_28 : decode cX4_step 28 = .ok (.aload_n 0, 1) := by decide +kernel
theorem dX4_step_29 : decode cX4_step 29 = .ok (.iconst 1, 1) := by decide +kernel
theorem dX4_step_30 : decode cX4_step 30 = .ok (.invokevirtual 36, 3) := by decide +kernel
theorem dX4_step_33 : decode cX4_step 33 = .ok (.ireturn, 1) := by decide +kernel
theorem dX4_step_34 : decode cX4_step 34 = .ok (.aload_n 0, 1) := by decide +kernel
theorem dX4_step_35 : decode cX4_step 35 = .ok (.iload_n 1, 1) := by decide +kernel
theorem dX4_step_36 : decode cX4_step 36 = .ok (.iload_n 2, 1) := by decide +kernel
theorem dX4_step_37 : decode cX4_step 37 = .ok (.invokevirtual 50, 3) := by decide +kernel
theorem dX4_step_40 : decode cX4_step 40 = .ok (.istore 4, 2) := by decide +kernel
theorem dX4_step_42 : decode cX4_step 42 = .ok (.aload_n 0, 1) := by decide +kernel
theorem dX4_step_43 : decode cX4_step 43 = .ok (.getfield 13, 3) := by decide +kernel
theorem dX4_step_46 : decode cX4_step 46 = .ok (.bipush 6, 2) := by decide +kernel
theorem dX4_step_48 : decode cX4_step 48 = .ok (.iload_n 1, 1) := by decide +kernel
theorem dX4_step_49 : decode cX4_step 49 = .ok (.imul, 1) := by decide +kernel
theorem dX4_step_50 : decode cX4_step 50 = .ok (.iload_n 2, 1) := by decide +kernel
theorem dX4_step_51 : decode cX4_step 51 = .ok (.iadd, 1) := by decide +kernel
theorem dX4_step_52 : decode cX4_step 52 = .ok (.iload_n 3, 1) := by decide +kernel
theorem dX4_step_53 : decode cX4_step 53 = .ok (.iastore, 1) := by decide +kernel
theorem dX4_step_54 : decode cX4_step 54 = .ok (.aload_n 0, 1) := by decide +kernel
theorem dX4_step_55 : decode cX4_step 55 = .ok (.invokevirtual 40, 3) := by decide +kernel
theorem dX4_step_58 : decode cX4_step 58 = .ok (.iload 4, 2) := by decide +kernel
theorem dX4_step_60 : decode cX4_step 60 = .ok (.ireturn, 1) := by decide +kernel
set_option maxRecDepth 20000 in
theorem ggX4_unstep_X4_isState : GoodIn wsX4_unstep wsX4_isState := goodIn_r _ [7, 8, 22, 23, 24, 25, 26, 27, 28, 29, 30, 31, 32, 33] (by decide +kernel) (by decide +kernel)
set_option maxRecDepth 20000 in
theorem gX4_unstep_X4_isState : GoodIn wsX4_unstep (wsV RX4 43 RX4 yX4_isState wsX4_isState) := goodIn_app (goodIn_of _ (by decide +kernel)) ggX4_unstep_X4_isState
set_option maxRecDepth 20000 in
theorem ggX4_unstep_X4_isLabel : GoodIn wsX4_unstep wsX4_isLabel := goodIn_r _ [11] (by decide +kernel) (by decide +kernel)
set_option maxRecDepth 20000 in
theorem gX4_unstep_X4_isLabel : GoodIn wsX4_unstep (va_wsS RX4 47 yX4_isLabel wsX4_isLabel) := goodIn_app (goodIn_of _ (by decide +kernel)) ggX4_unstep_X4_isLabel
set_option maxRecDepth 20000 in
theorem ggX4_unstep_X4_to : GoodIn wsX4_unstep wsX4_to := goodIn_r _ [15, 2, 22, 23, 24, 25, 26, 27, 28, 29, 30, 31, 32, 33] (by decide +kernel) (by decide +kernel)
set_option maxRecDepth 20000 in
theorem gX4_unstep_X4_to : GoodIn wsX4_unstep (wsV RX4 50 RX4 yX4_to wsX4_to) := goodIn_app (goodIn_of _ (by decide +kernel)) ggX4_unstep_X4_to
set_option maxRecDepth 20000 in
theorem ggX4_unstep_X4_change : GoodIn wsX4_unstep wsX4_change := goodIn_r _ [19, 20, 21, 22, 23, 24, 25, 26, 27, 28, 29, 30, 31, 32, 33] (by decide +kernel) (by decide +kernel)
set_option maxRecDepth 20000 in
theorem gX4_unstep_X4_change : GoodIn wsX4_unstep (wsV RX4 40 RX4 yX4_change wsX4_change) := goodIn_app (goodIn_of _ (by decide +kernel)) ggX4_unstep_X4_change
theorem dX4_unstep_0 : decode cX4_unstep 0 = .ok (.aload_n 0, 1) := by decide +kernel
theorem dX4_unstep_1 : decode cX4_unstep 1 = .ok (.aload_n 0, 1) := by decide +kernel
theorem dX4_unstep_2 : decode cX4_unstep 2 = .ok (.iload_n 1, 1) := by decide +kernel
theorem dX4_unstep_3 : decode cX4_unstep 3 = .ok (.invokevirtual 43, 3) := by decide +kernel
theorem dX4_unstep_6 : decode cX4_unstep 6 = .ok (.ifCond .eq 14, 3) := by decide +kernel
theorem dX4_unstep_9 : decode cX4_unstep 9 = .ok (.iload_n 2, 1) := by decide +kernel
theorem dX4_unstep_10 : decode cX4_unstep 10 = .ok (.invokestatic 47, 3) := by decide +kernel
theorem dX4_unstep_13 : decode cX4_unstep 13 = .ok (.ifCond .eq 7, 3) := by decide +kernel
theorem dX4_unstep_16 : decode cX4_unstep 16 = .ok (.iconst 0, 1) := by decide +kernel
theorem dX4_unstep_17 : decode cX4_unstep 17 = .ok (.goto 4, 3) := by decide +kernel
theorem dX4_unstep_20 : decode cX4_unstep 20 = .ok (.iconst 1, 1) := by decide +kernel
theorem dX4_unstep_21 : decode cX4_unstep 21 = .ok (.putfield 26, 3) := by decide +kernel
theorem dX4_unstep_24 : decode cX4_unstep 24 = .ok (.aload_n 0, 1) := by decide +kernel
theorem dX4_unstep_25 : decode cX4_unstep 25 = .ok (.getfield 26, 3) := by decide +kernel
theorem dX4_unstep_28 : decode cX4_unstep 28 = .ok (.ifCond .eq 5, 3) := by decide +kernel
theorem dX4_unstep_31 : decode cX4_unstep 31 = .ok (.iconst 0, 1) := by decide +kernel
theorem dX4_unstep_32 : decode cX4_unstep 32 = .ok (.ireturn, 1) := by decide +kernel
theorem dX4_unstep_33 : decode cX4_unstep 33 = .ok (.aload_n 0, 1) := by decide +kernel
theorem dX4_unstep_34 : decode cX4_unstep 34 = .ok (.iload_n 1, 1) := by decide +kernel
theorem dX4_unstep_35 : decode cX4_unstep 35 = .ok (.iload_n 2, 1) := by decide +kernel
theorem dX4_unstep_36 : decode cX4_unstep 36 = .ok (.invokevirtual 50, 3) := by decide +kernel
theorem dX4_unstep_39 : decode cX4_unstep 39 = .ok (.iconst (-1), 1) := by decide +kernel
theorem dX4_unstep_40 : decode cX4_unstep 40 = .ok (.if_icmp .eq 7, 3) := by decide +kernel
theorem dX4_unstep_43 : decode cX4_unstep 43 = .ok (.iconst 1, 1) := by decide +kernel
theorem dX4_unstep_44 : decode cX4_unstep 44 = .ok (.goto 4, 3) := by decide +kernel
theorem dX4_unstep_47 : decode cX4_unstep 47 = .ok (.iconst 0, 1) := by decide +kernel
theorem dX4_unstep_48 : decode cX4_unstep 48 = .ok (.istore_n 3, 1) := by decide +kernel
theorem dX4_unstep_49 : decode cX4_unstep 49 = .ok (.aload_n 0, 1) := by decide +kernel
theorem dX4_unstep_50 : decode cX4_unstep 50 = .ok (.getfield 13, 3) := by decide +kernel
theorem dX4_unstep_53 : decode cX4_unstep 53 = .ok (.bipush 6, 2) := by decide +kernel
theorem dX4_unstep_55 : decode cX4_unstep 55 = .ok (.iload_n 1, 1) := by decide +kernel
theorem dX4_unstep_56 : decode cX4_unstep 56 = .ok (.imul, 1) := by decide +kernel
theorem dX4_unstep_57 : decode cX4_unstep 57 = .ok (.iload_n 2, 1) := by decide +kernel
theorem dX4_unstep_58 : decode cX4_unstep 58 = .ok (.iadd, 1) := by decide +kernel
theorem dX4_unstep_59 : decode cX4_unstep 59 = .ok (.iconst (-1), 1) := by decide +kernel
theorem dX4_unstep_60 : decode cX4_unstep 60 = .ok (.iastore, 1) := by decide +kernel
theorem dX4_unstep_61 : decode cX4_unstep 61 = .ok (.aload_n 0, 1) := by decide +kernel
theorem dX4_unstep_62 : decode cX4_unstep 62 = .ok (.invokevirtual 40, 3) := by decide +kernel
theorem dX4_unstep_65 : decode cX4_unstep 65 = .ok (.iload_n 3, 1) := by decide +kernel
theorem dX4_unstep_66 : decode cX4_unstep 66 = .ok (.ireturn, 1) := by decide +kernel
set_option maxRecDepth 20000 in
theorem ggX4_rename_X4_isLabel : GoodIn wsX4_rename wsX4_isLabel := goodIn_r _ [7] (by decide +kernel) (by decide +kernel)
set_option maxRecDepth 20000 in
theorem gX4_rename_X4_isLabel : GoodIn wsX4_rename (va_wsS RX4 47 yX4_isLabel wsX4_isLabel) := goodIn_app (goodIn_of _ (by decide +kernel)) ggX4_rename_X4_isLabel
set_option maxRecDepth 20000 in
theorem ggX4_rename_X4_fail : GoodIn wsX4_rename wsX4_fail := goodIn_r _ [11, 1, 22, 23, 24, 25, 26, 27, 28, 29, 30, 31, 32, 33] (by decide +kernel) (by decide +kernel)
set_option maxRecDepth 20000 in
theorem gX4_rename_X4_fail : GoodIn wsX4_rename (wsV RX4 36 RX4 yX4_fail wsX4_fail) := goodIn_app (goodIn_of _ (by decide +kernel)) ggX4_rename_X4_fail
set_option maxRecDepth 20000 in
theorem ggX4_rename_X4_to : GoodIn wsX4_rename wsX4_to := goodIn_r _ [15, 3, 22, 23, 24, 25, 26, 27, 28, 29, 30, 31, 32, 33] (by decide +kernel) (by decide +kernel)
set_option maxRecDepth 20000 in
theorem gX4_rename_X4_to : GoodIn wsX4_rename (wsV RX4 50 RX4 yX4_to wsX4_to) := goodIn_app (goodIn_of _ (by decide +kernel)) ggX4_rename_X4_to
set_option maxRecDepth 20000 in
theorem ggX4_rename_X4_change : GoodIn wsX4_rename wsX4_change := goodIn_r _ [19, 20, 21, 22, 23, 24, 25, 26, 27, 28, 29, 30, 31, 32, 33] (by decide +kernel) (by decide +kernel)
set_option maxRecDepth 20000 in
theorem gX4_rename_X4_change : GoodIn wsX4_rename (wsV RX4 40 RX4 yX4_change wsX4_change) := goodIn_app (goodIn_of _ (by decide +kernel)) ggX4_rename_X4_change
theorem dX4_rename_0 : decode cX4_rename 0 = .ok (.aload_n 0, 1) := by decide +kernel
theorem dX4_rename_1 : decode cX4_rename 1 = .ok (.iconst 0, 1) := by decide +kernel
theorem dX4_rename_2 : decode cX4_rename 2 = .ok (.putfield 26, 3) := by decide +kernel
theorem dX4_rename_5 : decode cX4_rename 5 = .ok (.iload_n 1, 1) := by decide +kernel
theorem dX4_rename_6 : decode cX4_rename 6 = .ok (.invokestatic 47, 3) := by decide +kernel
theorem dX4_rename_9 : decode cX4_rename 9 = .ok (.ifCond .eq 10, 3) := by decide +kernel
theorem dX4_rename_12 : decode cX4_rename 12 = .ok (.iload_n 2, 1) := by decide +kernel
theorem dX4_rename_13 : decode cX4_rename 13 = .ok (.invokestatic 47, 3) := by decide +kernel
theorem dX4_rename_16 : decode cX4_rename 16 = .ok (.ifCond .ne 9, 3) := by decide +kernel
theorem dX4_rename_19 : decode cX4_rename 19 = .ok (.aload_n 0, 1) := by decide +kernel
theorem dX4_rename_20 : decode cX4_rename 20 = .ok (.iconst 1, 1) := by decide +kernel
theorem dX4_rename_21 : decode cX4_rename 21 = .ok (.invokevirtual 36, 3) := by decide +kernel
theorem dX4_rename_24 : decode cX4_rename 24 = .ok (.ireturn, 1) := by decide +kernel
theorem dX4_rename_25 : decode cX4_rename 25 = .ok (.iconst 0, 1) := by decide +kernel
theorem dX4_rename_26 : decode cX4_rename 26 = .ok (.istore_n 3, 1) := by decide +kernel
theorem dX4_rename_27 : decode cX4_rename 27 = .ok (.iconst 0, 1) := by decide +kernel
theorem dX4_rename_28 : decode cX4_rename 28 = .ok (.istore 4, 2) := by decide +kernel
theorem dX4_rename_30 : decode cX4_rename 30 = .ok (.iload 4, 2) := by decide +kernel
theorem dX4_rename_32 : decode cX4_rename 32 = .ok (.aload_n 0, 1) := by decide +kernel
theorem dX4_rename_33 : decode cX4_rename 33 = .ok (.getfield 9, 3) := by decide +kernel
theorem dX4_rename_36 : decode cX4_rename 36 = .ok (.if_icmp .ge 47, 3) := by decide +kernel
theorem dX4_rename_39 : decode cX4_rename 39 = .ok (.aload_n 0, 1) := by decide +kernel
theorem dX4_rename_40 : decode cX4_rename 40 = .ok (.iload 4, 2) := by decide +kernel
theorem dX4_rename_42 : decode cX4_rename 42 = .ok (.iload_n 1, 1) := by decide +kernel
theorem dX4_rename_43 : decode cX4_rename 43 = .ok (.invokevirtual 50, 3) := by decide +kernel
theorem dX4_rename_46 : decode cX4_rename 46 = .ok (.iconst (-1), 1) := by decide +kernel
theorem dX4_rename_47 : decode cX4_rename 47 = .ok (.if_icmp .ne 6, 3) := by decide +kernel
theorem dX4_rename_50 : decode cX4_rename 50 = .ok (.goto 27, 3) := by decide +kernel
theorem dX4_rename_53 : decode cX4_rename 53 = .ok (.iinc 3 1, 3) := by decide +kernel
theorem dX4_rename_56 : decode cX4_rename 56 = .ok (.iload_n 1, 1) := by decide +kernel
theorem dX4_rename_57 : decode cX4_rename 57 = .ok (.iload_n 2, 1) := by decide +kernel
theorem dX4_rename_58 : decode cX4_rename 58 = .ok (.if_icmp .eq 19, 3) := by decide +kernel
theorem dX4_rename_61 : decode cX4_rename 61 = .ok (.aload_n 0, 1) := by decide +kernel
theorem dX4_rename_62 : decode cX4_rename 62 = .ok (.iload 4, 2) := by decide +kernel
theorem dX4_rename_64 : decode cX4_rename 64 = .ok (.iload_n 2, 1) := by decide +kernel
theorem dX4_rename_65 : decode cX4_rename 65 = .ok (.invokevirtual 50, 3) := by decide +kernel
theorem dX4_rename_68 : decode cX4_rename 68 = .ok (.iconst (-1), 1) := by decide +kernel
theorem dX4_rename_69 : decode cX4_rename 69 = .ok (.if_icmp .eq 8, 3) := by decide +kernel
theorem dX4_rename_72 : decode cX4_rename 72 = .ok (.aload_n 0, 1) := by decide +kernel
theorem dX4_rename_73 : decode cX4_rename 73 = .ok (.iconst 2, 1) := by decide +kernel
theorem dX4_rename_74 : decode cX4_rename 74 = .ok (.putfield 26, 3) := by decide +kernel
theorem dX4_rename_77 : decode cX4_rename 77 = .ok (.iinc 4 1, 3) := by decide +kernel
theorem dX4_rename_80 : decode cX4_rename 80 = .ok (.goto (-50), 3) := by decide +kernel
theorem dX4_rename_83 : decode cX4_rename 83 = .ok (.aload_n 0, 1) := by decide +kernel
theorem dX4_rename_84 : decode cX4_rename 84 = .ok (.getfield 26, 3) := by decide +kernel
theorem dX4_rename_87 : decode cX4_rename 87 = .ok (.ifCond .eq 5, 3) := by decide +kernel
theorem dX4_rename_90 : decode cX4_rename 90 = .ok (.iconst 0, 1) := by decide +kernel
theorem dX4_rename_91 : decode cX4_rename 91 = .ok (.ireturn, 1) := by decide +kernel
theorem dX4_rename_92 : decode cX4_rename 92 = .ok (.iconst 0, 1) := by decide +kernel
theorem dX4_rename_93 : decode cX4_rename 93 = .ok (.istore 4, 2) := by decide +kernel
theorem dX4_rename_95 : decode cX4_rename 95 = .ok (.iload 4, 2) := by decide +kernel
theorem dX4_rename_97 : decode cX4_rename 97 = .ok (.aload_n 0, 1) := by decide +kernel
theorem dX4_rename_98 : decode cX4_rename 98 = .ok (.getfield 9, 3) := by decide +kernel
theorem dX4_rename_101 : decode cX4_rename 101 = .ok (.if_icmp .ge 60, 3) := by decide +kernel
theorem dX4_rename_104 : decode cX4_rename 104 = .ok (.iload_n 1, 1) := by decide +kernel
theorem dX4_rename_105 : decode cX4_rename 105 = .ok (.iload_n 2, 1) := by decide +kernel
theorem dX4_rename_106 : decode cX4_rename 106 = .ok (.if_icmp .eq 55, 3) := by decide +kernel
theorem dX4_rename_109 : decode cX4_rename 109 = .ok (.aload_n 0, 1) := by decide +kernel
theorem dX4_rename_110 : decode cX4_rename 110 = .ok (.iload 4, 2) := by decide +kernel
theorem dX4_rename_112 : decode cX4_rename 112 = .ok (.iload_n 1, 1) := by decide +kernel
theorem dX4_rename_113 : decode cX4_rename 113 = .ok (.invokevirtual 50, 3) := by decide +kernel
theorem dX4_rename_116 : decode cX4_rename 116 = .ok (.iconst (-1), 1) := by decide +kernel
theorem dX4_rename_117 : decode cX4_rename 117 = .ok (.if_icmp .ne 6, 3) := by decide +kernel
theorem dX4_rename_120 : decode cX4_rename 120 = .ok (.goto 35, 3) := by decide +kernel
theorem dX4_rename_123 : decode cX4_rename 123 = .ok (.aload_n 0, 1) := by decide +kernel
theorem dX4_rename_124 : decode cX4_rename 124 = .ok (.getfield 13, 3) := by decide +kernel
theorem dX4_rename_127 : decode cX4_rename 127 = .ok (.bipush 6, 2) := by decide +kernel
theorem dX4_rename_129 : decode cX4_rename 129 = .ok (.iload 4, 2) := by decide +kernel
theorem dX4_rename_131 : decode cX4_rename 131 = .ok (.imul, 1) := by decide +kernel
theorem dX4_rename_132 : decode cX4_rename 132 = .ok (.iload_n 2, 1) := by decide +kernel
theorem dX4_rename_133 : decode cX4_rename 133 = .ok (.iadd, 1) := by decide +kernel
theorem dX4_rename_134 : decode cX4_rename 134 = .ok (.aload_n 0, 1) := by decide +kernel
theorem dX4_rename_135 : decode cX4_rename 135 = .ok (.iload 4, 2) := by decide +kernel
theorem dX4_rename_137 : decode cX4_rename 137 = .ok (.iload_n 1, 1) := by decide +kernel
theorem dX4_rename_138 : decode cX4_rename 138 = .ok (.invokevirtual 50, 3) := by decide +kernel
theorem dX4_rename_141 : decode cX4_rename 141 = .ok (.iastore, 1) := by decide +kernel
theorem dX4_rename_142 : decode cX4_rename 142 = .ok (.aload_n 0, 1) := by decide +kernel
theorem dX4_rename_143 : decode cX4_rename 143 = .ok (.getfield 13, 3) := by decide +kernel
theorem dX4_rename_146 : decode cX4_rename 146 = .ok (.bipush 6, 2) := by decide +kernel
theorem dX4_rename_148 : decode cX4_rename 148 = .ok (.iload 4, 2) := by decide +kernel
theorem dX4_rename_150 : decode cX4_rename 150 = .ok (.imul, 1) := by decide +kernel
theorem dX4_rename_151 : decode cX4_rename 151 = .ok (.iload_n 1, 1) := by decide +kernel
theorem dX4_rename_152 : decode cX4_rename 152 = .ok (.iadd, 1) := by decide +kernel
theorem dX4_rename_153 : decode cX4_rename 153 = .ok (.iconst (-1), 1) := by decide +kernel
theorem dX4_rename_154 : decode cX4_rename 154 = .ok (.iastore, 1) := by decide +kernel
theorem dX4_rename_155 : decode cX4_rename 155 = .ok (.iinc 4 1, 3) := by decide +kernel
theorem dX4_rename_158 : decode cX4_rename 158 = .ok (.goto (-63), 3) := by decide +kernel
theorem dX4_rename_161 : decode cX4_rename 161 = .ok (.aload_n 0, 1) := by decide +kernel
theorem dX4_rename_162 : decode cX4_rename 162 = .ok (.invokevirtual 40, 3) := by decide +kernel
theorem dX4_rename_165 : decode cX4_rename 165 = .ok (.iload_n 3, 1) := by decide +kernel
theorem dX4_rename_166 : decode cX4_rename 166 = .ok (.ireturn, 1) := by decide +kernel
theorem dX4_stateCount_0 : decode cX4_stateCount 0 = .ok (.aload_n 0, 1) := by decide +kernel
theorem dX4_stateCount_1 : decode cX4_stateCount 1 = .ok (.iconst 0, 1) := by decide +kernel
theorem dX4_stateCount_2 : decode cX4_stateCount 2 = .ok (.putfield 26, 3) := by decide +kernel
theorem dX4_stateCount_5 : decode cX4_stateCount 5 = .ok (.aload_n 0, 1) := by decide +kernel
theorem dX4_stateCount_6 : decode cX4_stateCount 6 = .ok (.getfield 9, 3) := by decide +kernel
theorem dX4_stateCount_9 : decode cX4_stateCount 9 = .ok (.ireturn, 1) := by decide +kernel
set_option maxRecDepth 20000 in
theorem ggX4_target_X4_isState : GoodIn wsX4_target wsX4_isState := goodIn_r _ [6, 7, 20, 21, 22, 23, 24, 25, 26, 27, 28, 29, 30, 31] (by decide +kernel) (by decide +kernel)
set_option maxRecDepth 20000 in
theorem gX4_target_X4_isState : GoodIn wsX4_target (wsV RX4 43 RX4 yX4_isState wsX4_isState) := goodIn_app (goodIn_of _ (by decide +kernel)) ggX4_target_X4_isState
set_option maxRecDepth 20000 in
theorem ggX4_target_X4_isLabel : GoodIn wsX4_target wsX4_isLabel := goodIn_r _ [10] (by decide +kernel) (by decide +kernel)
set_option maxRecDepth 20000 in
theorem gX4_target_X4_isLabel : GoodIn wsX4_target (va_wsS RX4 47 yX4_isLabel wsX4_isLabel) := goodIn_app (goodIn_of _ (by decide +kernel)) ggX4_target_X4_isLabel
set_option maxRecDepth 20000 in
theorem ggX4_target_X4_to : GoodIn wsX4_target wsX4_to := goodIn_r _ [14, 15, 20, 21, 22, 23, 24, 25, 26, 27, 28, 29, 30, 31] (by decide +kernel) (by decide +kernel)
set_option maxRecDepth 20000 in
theorem gX4_target_X4_to : GoodIn wsX4_target (wsV RX4 50 RX4 yX4_to wsX4_to) := goodIn_app (goodIn_of _ (by decide +kernel)) ggX4_target_X4_to
set_option maxRecDepth 20000 in
theorem ggX4_target_X4_fail : GoodIn wsX4_target wsX4_fail := goodIn_r _ [19, 1, 20, 21, 22, 23, 24, 25, 26, 27, 28, 29, 30, 31] (by decide +kernel) (by decide +kernel)
set_option maxRecDepth 20000 in
theorem gX4_target_X4_fail : GoodIn wsX4_target (wsV RX4 36 RX4 yX4_fail wsX4_fail) := goodIn_app (goodIn_of _ (by decide +kernel)) ggX4_target_X4_fail
theorem dX4_target_0 : decode cX4_target 0 = .ok (.aload_n 0, 1) := by decide +kernel
theorem dX4_target_1 : decode cX4_target 1 = .ok (.iconst 0, 1) := by decide +kernel
theorem dX4_target_2 : decode cX4_target 2 = .ok (.putfield 26, 3) := by decide +kernel
theorem dX4_target_5 : decode cX4_target 5 = .ok (.aload_n 0, 1) := by decide +kernel
theorem dX4_target_6 : decode cX4_target 6 = .ok (.iload_n 1, 1) := by decide +kernel
theorem dX4_target_7 : decode cX4_target 7 = .ok (.invokevirtual 43, 3) := by decide +kernel
theorem dX4_target_10 : decode cX4_target 10 = .ok (.ifCond .eq 19, 3) := by decide +kernel
theorem dX4_target_13 : decode cX4_target 13 = .ok (.iload_n 2, 1) := by decide +kernel
theorem dX4_target_14 : decode cX4_target 14 = .ok (.invokestatic 47, 3) := by decide +kernel
theorem dX4_target_17 : decode cX4_target 17 = .ok (.ifCond .eq 12, 3) := by decide +kernel
theorem dX4_target_20 : decode cX4_target 20 = .ok (.aload_n 0, 1) := by decide +kernel
theorem dX4_target_21 : decode cX4_target 21 = .ok (.iload_n 1, 1) := by decide +kernel
theorem dX4_target_22 : decode cX4_target 22 = .ok (.iload_n 2, 1) := by decide +kernel
theorem dX4_target_23 : decode cX4_target 23 = .ok (.invokevirtual 50, 3) := by decide +kernel
theorem dX4_target_26 : decode cX4_target 26 = .ok (.goto 8, 3) := by decide +kernel
theorem dX4_target_29 : decode cX4_target 29 = .ok (.aload_n 0, 1) := by decide +kernel
theorem dX4_target_30 : decode cX4_target 30 = .ok (.iconst 1, 1) := by decide +kernel
theorem dX4_target_31 : decode cX4_target 31 = .ok (.invokevirtual 36, 3) := by decide +kernel
theorem dX4_target_34 : decode cX4_target 34 = .ok (.ireturn, 1) := by decide +kernel
set_option maxRecDepth 20000 in
theorem ggX4_enabled_X4_isState : GoodIn wsX4_enabled wsX4_isState := goodIn_r _ [6, 7, 17, 18, 19, 20, 21, 22, 23, 24, 25, 26, 27, 28] (by decide +kernel) (by decide +kernel)
set_option maxRecDepth 20000 in
theorem gX4_enabled_X4_isState : GoodIn wsX4_enabled (wsV RX4 43 RX4 yX4_isState wsX4_isState) := goodIn_app (goodIn_of _ (by decide +kernel)) ggX4_enabled_X4_isState
set_option maxRecDepth 20000 in
theorem ggX4_enabled_X4_fail : GoodIn wsX4_enabled wsX4_fail := goodIn_r _ [11, 1, 17, 18, 19, 20, 21, 22, 23, 24, 25, 26, 27, 28] (by decide +kernel) (by decide +kernel)
