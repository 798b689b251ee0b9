set_option maxRecDepth 20000 in
theorem ggL_target_X3_target : GoodIn wsL_target wsX3_target := goodIn_ca (goodIn_r _ [6, 7, 8, 9, 10, 5, 11, 12, 13, 14, 15, 16, 17, 18, 19, 20, 21, 22, 23, 24, 25, 26, 27, 28, 29, 30] (by decide +kernel) (by decide +kernel)) (goodIn_sub (fun _ h => List.mem_cons_of_mem _ (List.mem_append_right _ h)) (by decide +kernel))
set_option maxRecDepth 20000 in
theorem gL_target_X3_target : GoodIn wsL_target (wsV RL 29 RX3 yX3_target wsX3_target) := goodIn_app (goodIn_of _ (by decide +kernel)) ggL_target_X3_target
theorem dL_target_0 : decode cL_target 0 = .ok (.aload_n 3, 1) := by decide +kernel
theorem dL_target_1 : decode cL_target 1 = .ok (.iconst 0, 1) := by decide +kernel
theorem dL_target_2 : decode cL_target 2 = .ok (.aload_n 0, 1) := by decide +kernel
theorem dL_target_3 : decode cL_target 3 = .ok (.iload_n 1, 1) := by decide +kernel
theorem dL_target_4 : decode cL_target 4 = .ok (.iload_n 2, 1) := by decide +kernel
theorem dL_target_5 : decode cL_target 5 = .ok (.invokevirtual 29, 3) := by decide +kernel
theorem dL_target_8 : decode cL_target 8 = .ok (.i2l, 1) := by decide +kernel
theorem dL_target_9 : decode cL_target 9 = .ok (.lastore, 1) := by decide +kernel
theorem dL_target_10 : decode cL_target 10 = .ok (.goto 7, 3) := by decide +kernel
theorem dL_target_13 : decode cL_target 13 = .ok (.astore 4, 2) := by decide +kernel
theorem dL_target_15 : decode cL_target 15 = .ok (.iconst 1, 1) := by decide +kernel
theorem dL_target_16 : decode cL_target 16 = .ok (.ireturn, 1) := by decide +kernel
theorem dL_target_17 : decode cL_target 17 = .ok (.iconst 0, 1) := by decide +kernel
theorem dL_target_18 : decode cL_target 18 = .ok (.ireturn, 1) := by decide +kernel
set_option maxRecDepth 20000 in
theorem ggL_enabled_X3_enabled : GoodIn wsL_enabled wsX3_enabled := goodIn_ca (goodIn_r _ [6, 7, 8, 9, 10, 5, 11, 12, 13, 14, 15, 16, 17, 18, 19, 20, 21, 22, 23, 24, 25, 26, 27] (by decide +kernel) (by decide +kernel)) (goodIn_sub (fun _ h => List.mem_cons_of_mem _ (List.mem_append_right _ h)) (by decide +kernel))
set_option maxRecDepth 20000 in
theorem gL_enabled_X3_enabled : GoodIn wsL_enabled (wsV RL 32 RX3 yX3_enabled wsX3_enabled) := goodIn_app (goodIn_of _ (by decide +kernel)) ggL_enabled_X3_enabled
theorem dL_enabled_0 : decode cL_enabled 0 = .ok (.aload_n 2, 1) := by decide +kernel
theorem dL_enabled_1 : decode cL_enabled 1 = .ok (.iconst 0, 1) := by decide +kernel
theorem dL_enabled_2 : decode cL_enabled 2 = .ok (.aload_n 0, 1) := by decide +kernel
theorem dL_enabled_3 : decode cL_enabled 3 = .ok (.iload_n 1, 1) := by decide +kernel
theorem dL_enabled_4 : decode cL_enabled 4 = .ok (.invokevirtual 32, 3) := by decide +kernel
theorem dL_enabled_7 : decode cL_enabled 7 = .ok (.i2l, 1) := by decide +kernel
theorem dL_enabled_8 : decode cL_enabled 8 = .ok (.lastore, 1) := by decide +kernel
theorem dL_enabled_9 : decode cL_enabled 9 = .ok (.goto 6, 3) := by decide +kernel
theorem dL_enabled_12 : decode cL_enabled 12 = .ok (.astore_n 3, 1) := by decide +kernel
theorem dL_enabled_13 : decode cL_enabled 13 = .ok (.iconst 1, 1) := by decide +kernel
theorem dL_enabled_14 : decode cL_enabled 14 = .ok (.ireturn, 1) := by decide +kernel
theorem dL_enabled_15 : decode cL_enabled 15 = .ok (.iconst 0, 1) := by decide +kernel
theorem dL_enabled_16 : decode cL_enabled 16 = .ok (.ireturn, 1) := by decide +kernel
set_option maxRecDepth 20000 in
theorem ggL_distance_X3_distance : GoodIn wsL_distance wsX3_distance := goodIn_ca (goodIn_r _ [6, 7, 8, 9, 10, 5, 11, 12, 13, 14, 15, 16, 17, 18, 19, 20, 21, 22, 23, 24, 25, 26, 27, 28, 29, 30, 31, 32, 33, 34] (by decide +kernel) (by decide +kernel)) (goodIn_sub (fun _ h => List.mem_cons_of_mem _ (List.mem_append_right _ h)) (by decide +kernel))
set_option maxRecDepth 20000 in
theorem gL_distance_X3_distance : GoodIn wsL_distance (wsV RL 36 RX3 yX3_distance wsX3_distance) := goodIn_app (goodIn_of _ (by decide +kernel)) ggL_distance_X3_distance
theorem dL_distance_0 : decode cL_distance 0 = .ok (.aload_n 2, 1) := by decide +kernel
theorem dL_distance_1 : decode cL_distance 1 = .ok (.iconst 0, 1) := by decide +kernel
theorem dL_distance_2 : decode cL_distance 2 = .ok (.aload_n 0, 1) := by decide +kernel
theorem dL_distance_3 : decode cL_distance 3 = .ok (.iload_n 1, 1) := by decide +kernel
theorem dL_distance_4 : decode cL_distance 4 = .ok (.invokevirtual 36, 3) := by decide +kernel
theorem dL_distance_7 : decode cL_distance 7 = .ok (.i2l, 1) := by decide +kernel
theorem dL_distance_8 : decode cL_distance 8 = .ok (.lastore, 1) := by decide +kernel
theorem dL_distance_9 : decode cL_distance 9 = .ok (.goto 6, 3) := by decide +kernel
theorem dL_distance_12 : decode cL_distance 12 = .ok (.astore_n 3, 1) := by decide +kernel
theorem dL_distance_13 : decode cL_distance 13 = .ok (.iconst 1, 1) := by decide +kernel
theorem dL_distance_14 : decode cL_distance 14 = .ok (.ireturn, 1) := by decide +kernel
theorem dL_distance_15 : decode cL_distance 15 = .ok (.iconst 0, 1) := by decide +kernel
theorem dL_distance_16 : decode cL_distance 16 = .ok (.ireturn, 1) := by decide +kernel
set_option maxRecDepth 20000 in
theorem ggL_crossing_X3_crossing : GoodIn wsL_crossing wsX3_crossing := goodIn_ca (goodIn_ca (goodIn_r _ [7, 8, 9, 10, 11, 6, 12, 13, 14, 15, 16, 17, 18, 19, 20, 21, 22, 23, 24, 25, 26, 27, 28, 29, 30, 31, 32, 33, 34, 35, 36, 37, 38, 39, 40] (by decide +kernel) (by decide +kernel)) (goodIn_sub (fun _ h => List.mem_cons_of_mem _ (List.mem_append_left _ (List.mem_append_right _ h))) (by decide +kernel))) (goodIn_sub (fun _ h => List.mem_cons_of_mem _ (List.mem_append_right _ h)) (by decide +kernel))
set_option maxRecDepth 20000 in
theorem gL_crossing_X3_crossing : GoodIn wsL_crossing (wsV RL 39 RX3 yX3_crossing wsX3_crossing) := goodIn_app (goodIn_of _ (by decide +kernel)) ggL_crossing_X3_crossing
theorem dL_crossing_0 : decode cL_crossing 0 = .ok (.aload_n 3, 1) := by decide +kernel
theorem dL_crossing_1 : decode cL_crossing 1 = .ok (.iconst 0, 1) := by decide +kernel
theorem dL_crossing_2 : decode cL_crossing 2 = .ok (.aload_n 0, 1) := by decide +kernel
theorem dL_crossing_3 : decode cL_crossing 3 = .ok (.iload_n 1, 1) := by decide +kernel
theorem dL_crossing_4 : decode cL_crossing 4 = .ok (.iload_n 2, 1) := by decide +kernel
theorem dL_crossing_5 : decode cL_crossing 5 = .ok (.invokevirtual 39, 3) := by decide +kernel
theorem dL_crossing_8 : decode cL_crossing 8 = .ok (.i2l, 1) := by decide +kernel
theorem dL_crossing_9 : decode cL_crossing 9 = .ok (.lastore, 1) := by decide +kernel
theorem dL_crossing_10 : decode cL_crossing 10 = .ok (.goto 11, 3) := by decide +kernel
theorem dL_crossing_13 : decode cL_crossing 13 = .ok (.astore 4, 2) := by decide +kernel
theorem dL_crossing_15 : decode cL_crossing 15 = .ok (.iconst 1, 1) := by decide +kernel
theorem dL_crossing_16 : decode cL_crossing 16 = .ok (.ireturn, 1) := by decide +kernel
theorem dL_crossing_17 : decode cL_crossing 17 = .ok (.astore 4, 2) := by decide +kernel
theorem dL_crossing_19 : decode cL_crossing 19 = .ok (.iconst 2, 1) := by decide +kernel
theorem dL_crossing_20 : decode cL_crossing 20 = .ok (.ireturn, 1) := by decide +kernel
theorem dL_crossing_21 : decode cL_crossing 21 = .ok (.iconst 0, 1) := by decide +kernel
theorem dL_crossing_22 : decode cL_crossing 22 = .ok (.ireturn, 1) := by decide +kernel
set_option maxRecDepth 20000 in
theorem ggL_isRegion_X3_isRegion : GoodIn wsL_isRegion wsX3_isRegion := goodIn_ca (goodIn_r _ [6, 7, 8, 9, 10, 5, 11, 12, 13, 14, 15, 16, 17, 18, 19, 20, 21, 22, 23, 24, 25, 26, 27, 28, 29, 30, 31, 32, 33, 34, 35, 36, 37, 38, 39, 40, 41, 42, 43, 44, 45, 46, 47, 48, 49, 50] (by decide +kernel) (by decide +kernel)) (goodIn_sub (fun _ h => List.mem_cons_of_mem _ (List.mem_append_right _ h)) (by decide +kernel))
set_option maxRecDepth 20000 in
theorem gL_isRegion_X3_isRegion : GoodIn wsL_isRegion (wsV RL 44 RX3 yX3_isRegion wsX3_isRegion) := goodIn_app (goodIn_of _ (by decide +kernel)) ggL_isRegion_X3_isRegion
theorem dL_isRegion_0 : decode cL_isRegion 0 = .ok (.aload_n 2, 1) := by decide +kernel
theorem dL_isRegion_1 : decode cL_isRegion 1 = .ok (.iconst 0, 1) := by decide +kernel
theorem dL_isRegion_2 : decode cL_isRegion 2 = .ok (.aload_n 0, 1) := by decide +kernel
theorem dL_isRegion_3 : decode cL_isRegion 3 = .ok (.iload_n 1, 1) := by decide +kernel
theorem dL_isRegion_4 : decode cL_isRegion 4 = .ok (.invokevirtual 44, 3) := by decide +kernel
theorem dL_isRegion_7 : decode cL_isRegion 7 = .ok (.ifCond .eq 7, 3) := by decide +kernel
theorem dL_isRegion_10 : decode cL_isRegion 10 = .ok (.lconst 1, 1) := by decide +kernel
theorem dL_isRegion_11 : decode cL_isRegion 11 = .ok (.goto 4, 3) := by decide +kernel
theorem dL_isRegion_14 : decode cL_isRegion 14 = .ok (.lconst 0, 1) := by decide +kernel
theorem dL_isRegion_15 : decode cL_isRegion 15 = .ok (.lastore, 1) := by decide +kernel
theorem dL_isRegion_16 : decode cL_isRegion 16 = .ok (.goto 6, 3) := by decide +kernel
theorem dL_isRegion_19 : decode cL_isRegion 19 = .ok (.astore_n 3, 1) := by decide +kernel
theorem dL_isRegion_20 : decode cL_isRegion 20 = .ok (.iconst 1, 1) := by decide +kernel
theorem dL_isRegion_21 : decode cL_isRegion 21 = .ok (.ireturn, 1) := by decide +kernel
theorem dL_isRegion_22 : decode cL_isRegion 22 = .ok (.iconst 0, 1) := by decide +kernel
theorem dL_isRegion_23 : decode cL_isRegion 23 = .ok (.ireturn, 1) := by decide +kernel
set_option maxRecDepth 20000 in
theorem ggL_region_X3_region : GoodIn wsL_region wsX3_region := goodIn_ca (goodIn_r _ [6, 7, 8, 9, 10, 5, 11, 12, 13, 14, 15, 16, 17, 18, 19, 20, 21, 22, 23, 24, 25, 26, 27, 28, 29, 30, 31, 32, 33, 34, 35, 36, 37, 38, 39, 40, 41, 42, 43, 44, 45, 46, 47, 48, 49, 50, 51, 52, 53, 54, 55, 56, 57, 58, 59] (by decide +kernel) (by decide +kernel)) (goodIn_sub (fun _ h => List.mem_cons_of_mem _ (List.mem_append_right _ h)) (by decide +kernel))
set_option maxRecDepth 20000 in
theorem gL_region_X3_region : GoodIn wsL_region (wsV RL 48 RX3 yX3_region wsX3_region) := goodIn_app (goodIn_of _ (by decide +kernel)) ggL_region_X3_region
theorem dL_region_0 : decode cL_region 0 = .ok (.aload_n 2, 1) := by decide +kernel
theorem dL_region_1 : decode cL_region 1 = .ok (.iconst 0, 1) := by decide +kernel
theorem dL_region_2 : decode cL_region 2 = .ok (.aload_n 0, 1) := by decide +kernel
theorem dL_region_3 : decode cL_region 3 = .ok (.iload_n 1, 1) := by decide +kernel
theorem dL_region_4 : decode cL_region 4 = .ok (.invokevirtual 48, 3) := by decide +kernel
theorem dL_region_7 : decode cL_region 7 = .ok (.i2l, 1) := by decide +kernel
theorem dL_region_8 : decode cL_region 8 = .ok (.lastore, 1) := by decide +kernel
theorem dL_region_9 : decode cL_region 9 = .ok (.goto 6, 3) := by decide +kernel
theorem dL_region_12 : decode cL_region 12 = .ok (.astore_n 3, 1) := by decide +kernel
theorem dL_region_13 : decode cL_region 13 = .ok (.iconst 1, 1) := by decide +kernel
theorem dL_region_14 : decode cL_region 14 = .ok (.ireturn, 1) := by decide +kernel
theorem dL_region_15 : decode cL_region 15 = .ok (.iconst 0, 1) := by decide +kernel
theorem dL_region_16 : decode cL_region 16 = .ok (.ireturn, 1) := by decide +kernel
set_option maxRecDepth 20000 in
theorem ggL_isLeast_X3_isLeast : GoodIn wsL_isLeast wsX3_isLeast := goodIn_ca (goodIn_r _ [6, 7, 8, 9, 10, 5, 11, 12, 13, 14, 15, 16, 17, 18, 19, 20, 21, 22, 23, 24, 25, 26, 27, 28, 29, 30, 31, 32, 33, 34, 35, 36, 37, 38, 39, 40, 41, 42, 43, 44, 45, 46, 47, 48, 49, 50, 51, 52, 53, 54, 55, 56, 57, 58, 59] (by decide +kernel) (by decide +kernel)) (goodIn_sub (fun _ h => List.mem_cons_of_mem _ (List.mem_append_right _ h)) (by decide +kernel))
set_option maxRecDepth 20000 in
theorem gL_isLeast_X3_isLeast : GoodIn wsL_isLeast (wsV RL 51 RX3 yX3_isLeast wsX3_isLeast) := goodIn_app (goodIn_of _ (by decide +kernel)) ggL_isLeast_X3_isLeast
theorem dL_isLeast_0 : decode cL_isLeast 0 = .ok (.aload_n 2, 1) := by decide +kernel
theorem dL_isLeast_1 : decode cL_isLeast 1 = .ok (.iconst 0, 1) := by decide +kernel
theorem dL_isLeast_2 : decode cL_isLeast 2 = .ok (.aload_n 0, 1) := by decide +kernel
theorem dL_isLeast_3 : decode cL_isLeast 3 = .ok (.iload_n 1, 1) := by decide +kernel
theorem dL_isLeast_4 : decode cL_isLeast 4 = .ok (.invokevirtual 51, 3) := by decide +kernel
theorem dL_isLeast_7 : decode cL_isLeast 7 = .ok (.ifCond .eq 7, 3) := by decide +kernel
theorem dL_isLeast_10 : decode cL_isLeast 10 = .ok (.lconst 1, 1) := by decide +kernel
theorem dL_isLeast_11 : decode cL_isLeast 11 = .ok (.goto 4, 3) := by decide +kernel
theorem dL_isLeast_14 : decode cL_isLeast 14 = .ok (.lconst 0, 1) := by decide +kernel
theorem dL_isLeast_15 : decode cL_isLeast 15 = .ok (.lastore, 1) := by decide +kernel
theorem dL_isLeast_16 : decode cL_isLeast 16 = .ok (.goto 6, 3) := by decide +kernel
theorem dL_isLeast_19 : decode cL_isLeast 19 = .ok (.astore_n 3, 1) := by decide +kernel
theorem dL_isLeast_20 : decode cL_isLeast 20 = .ok (.iconst 1, 1) := by decide +kernel
theorem dL_isLeast_21 : decode cL_isLeast 21 = .ok (.ireturn, 1) := by decide +kernel
theorem dL_isLeast_22 : decode cL_isLeast 22 = .ok (.iconst 0, 1) := by decide +kernel
theorem dL_isLeast_23 : decode cL_isLeast 23 = .ok (.ireturn, 1) := by decide +kernel
set_option maxRecDepth 20000 in
theorem ggL_grow_X3_grow : GoodIn wsL_grow wsX3_grow := goodIn_ca (goodIn_r _ [6, 7, 8, 9, 10, 5, 11, 12, 13, 14, 15, 16, 17, 18, 19, 20, 21, 22, 23, 24, 25, 26, 27, 28, 29, 30, 31, 32, 33, 34, 35, 36, 37, 38, 39, 40, 41, 42, 43, 44, 45, 46, 47, 48, 49, 50, 51] (by decide +kernel) (by decide +kernel)) (goodIn_sub (fun _ h => List.mem_cons_of_mem _ (List.mem_append_right _ h)) (by decide +kernel))
set_option maxRecDepth 20000 in
theorem gL_grow_X3_grow : GoodIn wsL_grow (wsV RL 54 RX3 yX3_grow wsX3_grow) := goodIn_app (goodIn_of _ (by decide +kernel)) ggL_grow_X3_grow
theorem dL_grow_0 : decode cL_grow 0 = .ok (.aload_n 2, 1) := by decide +kernel
theorem dL_grow_1 : decode cL_grow 1 = .ok (.iconst 0, 1) := by decide +kernel
theorem dL_grow_2 : decode cL_grow 2 = .ok (.aload_n 0, 1) := by decide +kernel
theorem dL_grow_3 : decode cL_grow 3 = .ok (.iload_n 1, 1) := by decide +kernel
theorem dL_grow_4 : decode cL_grow 4 = .ok (.invokevirtual 54, 3) := by decide +kernel
theorem dL_grow_7 : decode cL_grow 7 = .ok (.i2l, 1) := by decide +kernel
theorem dL_grow_8 : decode cL_grow 8 = .ok (.lastore, 1) := by decide +kernel
theorem dL_grow_9 : decode cL_grow 9 = .ok (.goto 6, 3) := by decide +kernel
theorem dL_grow_12 : decode cL_grow 12 = .ok (.astore_n 3, 1) := by decide +kernel
theorem dL_grow_13 : decode cL_grow 13 = .ok (.iconst 1, 1) := by decide +kernel
theorem dL_grow_14 : decode cL_grow 14 = .ok (.ireturn, 1) := by decide +kernel
theorem dL_grow_15 : decode cL_grow 15 = .ok (.iconst 0, 1) := by decide +kernel
theorem dL_grow_16 : decode cL_grow 16 = .ok (.ireturn, 1) := by decide +kernel
set_option maxRecDepth 20000 in
theorem ggL_apart_X3_apart : GoodIn wsL_apart wsX3_apart := goodIn_ca (goodIn_r _ [6, 7, 8, 9, 10, 5, 11, 12, 13, 14, 15, 16, 17, 18, 19, 20, 21, 22, 23, 24, 25, 26, 27, 28, 29, 30, 31, 32, 33, 34, 35, 36, 37, 38, 39, 40, 41, 42, 43, 44, 45, 46, 47, 48, 49, 50, 51, 52, 53, 54, 55, 56, 57, 58, 59, 60, 61, 62] (by decide +kernel) (by decide +kernel)) (goodIn_sub (fun _ h => List.mem_cons_of_mem _ (List.mem_append_right _ h)) (by decide +kernel))
set_option maxRecDepth 20000 in
theorem gL_apart_X3_apart : GoodIn wsL_apart (wsV RL 57 RX3 yX3_apart wsX3_apart) := goodIn_app (goodIn_of _ (by decide +kernel)) ggL_apart_X3_apart
theorem dL_apart_0 : decode cL_apart 0 = .ok (.aload_n 3, 1) := by decide +kernel
theorem dL_apart_1 : decode cL_apart 1 = .ok (.iconst 0, 1) := by decide +kernel
theorem dL_apart_2 : decode cL_apart 2 = .ok (.aload_n 0, 1) := by decide +kernel
theorem dL_apart_3 : decode cL_apart 3 = .ok (.iload_n 1, 1) := by decide +kernel
theorem dL_apart_4 : decode cL_apart 4 = .ok (.iload_n 2, 1) := by decide +kernel
theorem dL_apart_5 : decode cL_apart 5 = .ok (.invokevirtual 57, 3) := by decide +kernel
theorem dL_apart_8 : decode cL_apart 8 = .ok (.i2l, 1) := by decide +kernel
theorem dL_apart_9 : decode cL_apart 9 = .ok (.lastore, 1) := by decide +kernel
theorem dL_apart_10 : decode cL_apart 10 = .ok (.goto 7, 3) := by decide +kernel
theorem dL_apart_13 : decode cL_apart 13 = .ok (.astore 4, 2) := by decide +kernel
theorem dL_apart_15 : decode cL_apart 15 = .ok (.iconst 1, 1) := by decide +kernel
theorem dL_apart_16 : decode cL_apart 16 = .ok (.ireturn, 1) := by decide +kernel
theorem dL_apart_17 : decode cL_apart 17 = .ok (.iconst 0, 1) := by decide +kernel
theorem dL_apart_18 : decode cL_apart 18 = .ok (.ireturn, 1) := by decide +kernel
set_option maxRecDepth 20000 in
theorem ggL_preventer_X3_preventer : GoodIn wsL_preventer wsX3_preventer := goodIn_ca (goodIn_r _ [6, 7, 8, 9, 10, 11, 5, 12, 13, 14, 15, 16, 17, 18, 19, 20, 21, 22, 23, 24, 25, 26, 27, 28, 29, 30, 31, 32, 33, 34, 35, 36, 37, 38, 39, 40, 41, 42, 43, 44, 45, 46, 47, 48, 49, 50, 51, 52, 53, 54, 55, 56, 57, 58, 59, 60, 61, 62, 63, 64, 65, 66, 67, 68, 69, 70, 71, 72, 73, 74, 75] (by decide +kernel) (by decide +kernel)) (goodIn_sub (fun _ h => List.mem_cons_of_mem _ (List.mem_append_right _ h)) (by decide +kernel))
set_option maxRecDepth 20000 in
theorem gL_preventer_X3_preventer : GoodIn wsL_preventer (wsV RL 60 RX3 yX3_preventer wsX3_preventer) := goodIn_app (goodIn_of _ (by decide +kernel)) ggL_preventer_X3_preventer
theorem dL_preventer_0 : decode cL_preventer 0 = .ok (.aload_n 3, 1) := by decide +kernel
theorem dL_preventer_1 : decode cL_preventer 1 = .ok (.iconst 0, 1) := by decide +kernel
theorem dL_preventer_2 : decode cL_preventer 2 = .ok (.aload_n 0, 1) := by decide +kernel
theorem dL_preventer_3 : decode cL_preventer 3 = .ok (.iload_n 1, 1) := by decide +kernel
theorem dL_preventer_4 : decode cL_preventer 4 = .ok (.iload_n 2, 1) := by decide +kernel
theorem dL_preventer_5 : decode cL_preventer 5 = .ok (.invokevirtual 60, 3) := by decide +kernel
theorem dL_preventer_8 : decode cL_preventer 8 = .ok (.i2l, 1) := by decide +kernel
theorem dL_preventer_9 : decode cL_preventer 9 = .ok (.lastore, 1) := by decide +kernel
theorem dL_preventer_10 : decode cL_preventer 10 = .ok (.goto 7, 3) := by decide +kernel
theorem dL_preventer_13 : decode cL_preventer 13 = .ok (.astore 4, 2) := by decide +kernel
theorem dL_preventer_15 : decode cL_preventer 15 = .ok (.iconst 1, 1) := by decide +kernel
theorem dL_preventer_16 : decode cL_preventer 16 = .ok (.ireturn, 1) := by decide +kernel
theorem dL_preventer_17 : decode cL_preventer 17 = .ok (.iconst 0, 1) := by decide +kernel
theorem dL_preventer_18 : decode cL_preventer 18 = .ok (.ireturn, 1) := by decide +kernel
set_option maxRecDepth 20000 in
theorem ggL_placeRegion_X3_placeRegion : GoodIn wsL_placeRegion wsX3_placeRegion := goodIn_ca (goodIn_ca (goodIn_r _ [7, 8, 9, 10, 11, 12, 13, 6, 14, 15, 16, 17, 18, 19, 20, 21, 22, 23, 24, 25, 26, 27, 28, 29, 30, 31, 32, 33, 34, 35, 36] (by decide +kernel) (by decide +kernel)) (goodIn_sub (fun _ h => List.mem_cons_of_mem _ (List.mem_append_left _ (List.mem_append_right _ h))) (by decide +kernel))) (goodIn_sub (fun _ h => List.mem_cons_of_mem _ (List.mem_append_right _ h)) (by decide +kernel))
set_option maxRecDepth 20000 in
theorem gL_placeRegion_X3_placeRegion : GoodIn wsL_placeRegion (wsV RL 63 RX3 yX3_placeRegion wsX3_placeRegion) := goodIn_app (goodIn_of _ (by decide +kernel)) ggL_placeRegion_X3_placeRegion
theorem dL_placeRegion_0 : decode cL_placeRegion 0 = .ok (.aload_n 2, 1) := by decide +kernel
theorem dL_placeRegion_1 : decode cL_placeRegion 1 = .ok (.iconst 0, 1) := by decide +kernel
theorem dL_placeRegion_2 : decode cL_placeRegion 2 = .ok (.aload_n 0, 1) := by decide +kernel
theorem dL_placeRegion_3 : decode cL_placeRegion 3 = .ok (.iload_n 1, 1) := by decide +kernel
theorem dL_placeRegion_4 : decode cL_placeRegion 4 = .ok (.invokevirtual 63, 3) := by decide +kernel
theorem dL_placeRegion_7 : decode cL_placeRegion 7 = .ok (.i2l, 1) := by decide +kernel
theorem dL_placeRegion_8 : decode cL_placeRegion 8 = .ok (.lastore, 1) := by decide +kernel
theorem dL_placeRegion_9 : decode cL_placeRegion 9 = .ok (.goto 9, 3) := by decide +kernel
theorem dL_placeRegion_12 : decode cL_placeRegion 12 = .ok (.astore_n 3, 1) := by decide +kernel
theorem dL_placeRegion_13 : decode cL_placeRegion 13 = .ok (.iconst 1, 1) := by decide +kernel
theorem dL_placeRegion_14 : decode cL_placeRegion 14 = .ok (.ireturn, 1) := by decide +kernel
theorem dL_placeRegion_15 : decode cL_placeRegion 15 = .ok (.astore_n 3, 1) := by decide +kernel
theorem dL_placeRegion_16 : decode cL_placeRegion 16 = .ok (.iconst 2, 1) := by decide +kernel
theorem dL_placeRegion_17 : decode cL_placeRegion 17 = .ok (.ireturn, 1) := by decide +kernel
theorem dL_placeRegion_18 : decode cL_placeRegion 18 = .ok (.iconst 0, 1) := by decide +kernel
theorem dL_placeRegion_19 : decode cL_placeRegion 19 = .ok (.ireturn, 1) := by decide +kernel
set_option maxRecDepth 20000 in
theorem ggL_consumed_X3_consumed : GoodIn wsL_consumed wsX3_consumed := goodIn_ca (goodIn_ca (goodIn_r _ [7, 8, 9, 10, 11, 6, 12, 13, 14, 15, 16, 17, 18, 19, 20, 21, 22, 23, 24, 25, 26, 27, 28, 29, 30, 31, 32, 33, 34, 35, 36, 37, 38, 39] (by decide +kernel) (by decide +kernel)) (goodIn_sub (fun _ h => List.mem_cons_of_mem _ (List.mem_append_left _ (List.mem_append_right _ h))) (by decide +kernel))) (goodIn_sub (fun _ h => List.mem_cons_of_mem _ (List.mem_append_right _ h)) (by decide +kernel))
set_option maxRecDepth 20000 in
theorem gL_consumed_X3_consumed : GoodIn wsL_consumed (wsV RL 66 RX3 yX3_consumed wsX3_consumed) := goodIn_app (goodIn_of _ (by decide +kernel)) ggL_consumed_X3_consumed
theorem dL_consumed_0 : decode cL_consumed 0 = .ok (.aload_n 2, 1) := by decide +kernel
theorem dL_consumed_1 : decode cL_consumed 1 = .ok (.iconst 0, 1) := by decide +kernel
theorem dL_consumed_2 : decode cL_consumed 2 = .ok (.aload_n 0, 1) := by decide +kernel
theorem dL_consumed_3 : decode cL_consumed 3 = .ok (.iload_n 1, 1) := by decide +kernel
theorem dL_consumed_4 : decode cL_consumed 4 = .ok (.invokevirtual 66, 3) := by decide +kernel
theorem dL_consumed_7 : decode cL_consumed 7 = .ok (.i2l, 1) := by decide +kernel
theorem dL_consumed_8 : decode cL_consumed 8 = .ok (.lastore, 1) := by decide +kernel
theorem dL_consumed_9 : decode cL_consumed 9 = .ok (.goto 9, 3) := by decide +kernel
theorem dL_consumed_12 : decode cL_consumed 12 = .ok (.astore_n 3, 1) := by decide +kernel
theorem dL_consumed_13 : decode cL_consumed 13 = .ok (.iconst 1, 1) := by decide +kernel
theorem dL_consumed_14 : decode cL_consumed 14 = .ok (.ireturn, 1) := by decide +kernel
theorem dL_consumed_15 : decode cL_consumed 15 = .ok (.astore_n 3, 1) := by decide +kernel
theorem dL_consumed_16 : decode cL_consumed 16 = .ok (.iconst 2, 1) := by decide +kernel
theorem dL_consumed_17 : decode cL_consumed 17 = .ok (.ireturn, 1) := by decide +kernel
theorem dL_consumed_18 : decode cL_consumed 18 = .ok (.iconst 0, 1) := by decide +kernel
theorem dL_consumed_19 : decode cL_consumed 19 = .ok (.ireturn, 1) := by decide +kernel
set_option maxRecDepth 20000 in
theorem ggL_produced_X3_produced : GoodIn wsL_produced wsX3_produced := goodIn_ca (goodIn_ca (goodIn_r _ [7, 8, 9, 10, 11, 6, 12, 13, 14, 15, 16, 17, 18, 19, 20, 21, 22, 23, 24, 25, 26, 27, 28, 29, 30, 31, 32, 33, 34, 35, 36, 37, 38, 39] (by decide +kernel) (by decide +kernel)) (goodIn_sub (fun _ h => List.mem_cons_of_mem _ (List.mem_append_left _ (List.mem_append_right _ h))) (by decide +kernel))) (goodIn_sub (fun _ h => List.mem_cons_of_mem _ (List.mem_append_right _ h)) (by decide +kernel))
set_option maxRecDepth 20000 in
theorem gL_produced_X3_produced : GoodIn wsL_produced (wsV RL 69 RX3 yX3_produced wsX3_produced) := goodIn_app (goodIn_of _ (by decide +kernel)) ggL_produced_X3_produced
theorem dL_produced_0 : decode cL_produced 0 = .ok (.aload_n 2, 1) := by decide +kernel
theorem dL_produced_1 : decode cL_produced 1 = .ok (.iconst 0, 1) := by decide +kernel
theorem dL_produced_2 : decode cL_produced 2 = .ok (.aload_n 0, 1) := by decide +kernel
theorem dL_produced_3 : decode cL_produced 3 = .ok (.iload_n 1, 1) := by decide +kernel
theorem dL_produced_4 : decode cL_produced 4 = .ok (.invokevirtual 69, 3) := by decide +kernel
theorem dL_produced_7 : decode cL_produced 7 = .ok (.i2l, 1) := by decide +kernel
theorem dL_produced_8 : decode cL_produced 8 = .ok (.lastore, 1) := by decide +kernel
theorem dL_produced_9 : decode cL_produced 9 = .ok (.goto 9, 3) := by decide +kernel
theorem dL_produced_12 : decode cL_produced 12 = .ok (.astore_n 3, 1) := by decide +kernel
theorem dL_produced_13 : decode cL_produced 13 = .ok (.iconst 1, 1) := by decide +kernel
theorem dL_produced_14 : decode cL_produced 14 = .ok (.ireturn, 1) := by decide +kernel
theorem dL_produced_15 : decode cL_produced 15 = .ok (.astore_n 3, 1) := by decide +kernel
theorem dL_produced_16 : decode cL_produced 16 = .ok (.iconst 2, 1) := by decide +kernel
theorem dL_produced_17 : decode cL_produced 17 = .ok (.ireturn, 1) := by decide +kernel
theorem dL_produced_18 : decode cL_produced 18 = .ok (.iconst 0, 1) := by decide +kernel
theorem dL_produced_19 : decode cL_produced 19 = .ok (.ireturn, 1) := by decide +kernel
set_option maxRecDepth 20000 in
theorem ggL_marking_X3_marking : GoodIn wsL_marking wsX3_marking := goodIn_ca (goodIn_r _ [6, 7, 8, 9, 10, 5, 11, 12, 13, 14, 15, 16, 17, 18, 19, 20, 21, 22, 23, 24, 25, 26, 27] (by decide +kernel) (by decide +kernel)) (goodIn_sub (fun _ h => List.mem_cons_of_mem _ (List.mem_append_right _ h)) (by decide +kernel))
set_option maxRecDepth 20000 in
theorem gL_marking_X3_marking : GoodIn wsL_marking (wsV RL 72 RX3 yX3_marking wsX3_marking) := goodIn_app (goodIn_of _ (by decide +kernel)) ggL_marking_X3_marking
theorem dL_marking_0 : decode cL_marking 0 = .ok (.aload_n 1, 1) := by decide +kernel
theorem dL_marking_1 : decode cL_marking 1 = .ok (.iconst 0, 1) := by decide +kernel
theorem dL_marking_2 : decode cL_marking 2 = .ok (.aload_n 0, 1) := by decide +kernel
theorem dL_marking_3 : decode cL_marking 3 = .ok (.invokevirtual 72, 3) := by decide +kernel
theorem dL_marking_6 : decode cL_marking 6 = .ok (.i2l, 1) := by decide +kernel
theorem dL_marking_7 : decode cL_marking 7 = .ok (.lastore, 1) := by decide +kernel
theorem dL_marking_8 : decode cL_marking 8 = .ok (.goto 6, 3) := by decide +kernel
theorem dL_marking_11 : decode cL_marking 11 = .ok (.astore_n 2, 1) := by decide +kernel
theorem dL_marking_12 : decode cL_marking 12 = .ok (.iconst 1, 1) := by decide +kernel
theorem dL_marking_13 : decode cL_marking 13 = .ok (.ireturn, 1) := by decide +kernel
theorem dL_marking_14 : decode cL_marking 14 = .ok (.iconst 0, 1) := by decide +kernel
theorem dL_marking_15 : decode cL_marking 15 = .ok (.ireturn, 1) := by decide +kernel
set_option maxRecDepth 20000 in
theorem ggL_fire_X3_fire : GoodIn wsL_fire wsX3_fire := goodIn_ca (goodIn_ca (goodIn_r _ [7, 8, 9, 10, 11, 6, 12, 13, 14, 15, 16, 17, 18, 19, 20, 21, 22, 23, 24, 25, 26, 27, 28, 29, 30, 31, 32, 33, 34, 35, 36, 37, 38, 39, 40, 41, 42, 43, 44, 45, 46, 47, 48, 49, 50, 51, 52, 53, 54, 55, 56] (by decide +kernel) (by decide +kernel)) (goodIn_sub (fun _ h => List.mem_cons_of_mem _ (List.mem_append_left _ (List.mem_append_right _ h))) (by decide +kernel))) (goodIn_sub (fun _ h => List.mem_cons_of_mem _ (List.mem_append_right _ h)) (by decide +kernel))
set_option maxRecDepth 20000 in
theorem gL_fire_X3_fire : GoodIn wsL_fire (wsV RL 75 RX3 yX3_fire wsX3_fire) := goodIn_app (goodIn_of _ (by decide +kernel)) ggL_fire_X3_fire
theorem dL_fire_0 : decode cL_fire 0 = .ok (.aload_n 2, 1) := by decide +kernel
theorem dL_fire_1 : decode cL_fire 1 = .ok (.iconst 0, 1) := by decide +kernel
theorem dL_fire_2 : decode cL_fire 2 = .ok (.aload_n 0, 1) := by decide +kernel
theorem dL_fire_3 : decode cL_fire 3 = .ok (.iload_n 1, 1) := by decide +kernel
theorem dL_fire_4 : decode cL_fire 4 = .ok (.invokevirtual 75, 3) := by decide +kernel
theorem dL_fire_7 : decode cL_fire 7 = .ok (.i2l, 1) := by decide +kernel
theorem dL_fire_8 : decode cL_fire 8 = .ok (.lastore, 1) := by decide +kernel
theorem dL_fire_9 : decode cL_fire 9 = .ok (.goto 9, 3) := by decide +kernel
theorem dL_fire_12 : decode cL_fire 12 = .ok (.astore_n 3, 1) := by decide +kernel
theorem dL_fire_13 : decode cL_fire 13 = .ok (.iconst 1, 1) := by decide +kernel
theorem dL_fire_14 : decode cL_fire 14 = .ok (.ireturn, 1) := by decide +kernel
theorem dL_fire_15 : decode cL_fire 15 = .ok (.astore_n 3, 1) := by decide +kernel
theorem dL_fire_16 : decode cL_fire 16 = .ok (.iconst 2, 1) := by decide +kernel
theorem dL_fire_17 : decode cL_fire 17 = .ok (.ireturn, 1) := by decide +kernel
theorem dL_fire_18 : decode cL_fire 18 = .ok (.iconst 0, 1) := by decide +kernel
theorem dL_fire_19 : decode cL_fire 19 = .ok (.ireturn, 1) := by decide +kernel
set_option maxRecDepth 20000 in
theorem ggL_markingCount_X3_markingCount : GoodIn wsL_markingCount wsX3_markingCount := goodIn_ca (goodIn_r _ [6, 7, 8, 9, 10, 5, 11, 12, 13, 14, 15, 16, 17, 18, 19, 20, 21, 22, 23, 24, 25, 26, 27, 28, 29, 30, 31, 32, 33, 34, 35, 36, 37, 38, 39, 40, 41, 42, 43, 44, 45, 46, 47, 48, 49, 50, 51, 52, 53, 54, 55, 56, 57, 58, 59, 60, 61, 62, 63, 64, 65] (by decide +kernel) (by decide +kernel)) (goodIn_sub (fun _ h => List.mem_cons_of_mem _ (List.mem_append_right _ h)) (by decide +kernel))
set_option maxRecDepth 20000 in
theorem gL_markingCount_X3_markingCount : GoodIn wsL_markingCount (wsV RL 78 RX3 yX3_markingCount wsX3_markingCount) := goodIn_app (goodIn_of _ (by decide +kernel)) ggL_markingCount_X3_markingCount
theorem dL_markingCount_0 : decode cL_markingCount 0 = .ok (.aload_n 1, 1) := by decide +kernel
theorem dL_markingCount_1 : decode cL_markingCount 1 = .ok (.iconst 0, 1) := by decide +kernel
theorem dL_markingCount_2 : decode cL_markingCount 2 = .ok (.aload_n 0, 1) := by decide +kernel
theorem dL_markingCount_3 : decode cL_markingCount 3 = .ok (.invokevirtual 78, 3) := by decide +kernel
theorem dL_markingCount_6 : decode cL_markingCount 6 = .ok (.i2l, 1) := by decide +kernel
theorem dL_markingCount_7 : decode cL_markingCount 7 = .ok (.lastore, 1) := by decide +kernel
theorem dL_markingCount_8 : decode cL_markingCount 8 = .ok (.goto 6, 3) := by decide +kernel
theorem dL_markingCount_11 : decode cL_markingCount 11 = .ok (.astore_n 2, 1) := by decide +kernel
theorem dL_markingCount_12 : decode cL_markingCount 12 = .ok (.iconst 1, 1) := by decide +kernel
theorem dL_markingCount_13 : decode cL_markingCount 13 = .ok (.ireturn, 1) := by decide +kernel
theorem dL_markingCount_14 : decode cL_markingCount 14 = .ok (.iconst 0, 1) := by decide +kernel
theorem dL_markingCount_15 : decode cL_markingCount 15 = .ok (.ireturn, 1) := by decide +kernel
set_option maxRecDepth 20000 in
theorem ggL_markingAt_X3_markingAt : GoodIn wsL_markingAt wsX3_markingAt := goodIn_ca (goodIn_ca (goodIn_r _ [7, 8, 9, 10, 11, 12, 13, 6, 14, 15, 16, 17, 18, 19, 20, 21, 22, 23, 24, 25, 26, 27, 28, 29, 30, 31, 32, 33, 34, 35, 36, 37, 38, 39, 40, 41, 42, 43, 44, 45, 46, 47, 48, 49, 50, 51, 52, 53, 54, 55, 56, 57, 58, 59, 60, 61, 62, 63, 64, 65, 66, 67, 68, 69, 70, 71, 72] (by decide +kernel) (by decide +kernel)) (goodIn_sub (fun _ h => List.mem_cons_of_mem _ (List.mem_append_left _ (List.mem_append_right _ h))) (by decide +kernel))) (goodIn_sub (fun _ h => List.mem_cons_of_mem _ (List.mem_append_right _ h)) (by decide +kernel))
set_option maxRecDepth 20000 in
theorem gL_markingAt_X3_markingAt : GoodIn wsL_markingAt (wsV RL 81 RX3 yX3_markingAt wsX3_markingAt) := goodIn_app (goodIn_of _ (by decide +kernel)) ggL_markingAt_X3_markingAt
theorem dL_markingAt_0 : decode cL_markingAt 0 = .ok (.aload_n 2, 1) := by decide +kernel
theorem dL_markingAt_1 : decode cL_markingAt 1 = .ok (.iconst 0, 1) := by decide +kernel
theorem dL_markingAt_2 : decode cL_markingAt 2 = .ok (.aload_n 0, 1) := by decide +kernel
theorem dL_markingAt_3 : decode cL_markingAt 3 = .ok (.iload_n 1, 1) := by decide +kernel
theorem dL_markingAt_4 : decode cL_markingAt 4 = .ok (.invokevirtual 81, 3) := by decide +kernel
theorem dL_markingAt_7 : decode cL_markingAt 7 = .ok (.i2l, 1) := by decide +kernel
theorem dL_markingAt_8 : decode cL_markingAt 8 = .ok (.lastore, 1) := by decide +kernel
theorem dL_markingAt_9 : decode cL_markingAt 9 = .ok (.goto 9, 3) := by decide +kernel
theorem dL_markingAt_12 : decode cL_markingAt 12 = .ok (.astore_n 3, 1) := by decide +kernel
theorem dL_markingAt_13 : decode cL_markingAt 13 = .ok (.iconst 1, 1) := by decide +kernel
theorem dL_markingAt_14 : decode cL_markingAt 14 = .ok (.ireturn, 1) := by decide +kernel
theorem dL_markingAt_15 : decode cL_markingAt 15 = .ok (.astore_n 3, 1) := by decide +kernel
theorem dL_markingAt_16 : decode cL_markingAt 16 = .ok (.iconst 2, 1) := by decide +kernel
theorem dL_markingAt_17 : decode cL_markingAt 17 = .ok (.ireturn, 1) := by decide +kernel
theorem dL_markingAt_18 : decode cL_markingAt 18 = .ok (.iconst 0, 1) := by decide +kernel
theorem dL_markingAt_19 : decode cL_markingAt 19 = .ok (.ireturn, 1) := by decide +kernel
set_option maxRecDepth 20000 in
theorem ggL_isFaithful_X3_isFaithful : GoodIn wsL_isFaithful wsX3_isFaithful := goodIn_ca (goodIn_r _ [6, 7, 8, 9, 10, 5, 11, 12, 13, 14, 15, 16, 17, 18, 19, 20, 21, 22, 23, 24, 25, 26, 27, 28, 29, 30, 31, 32, 33, 34, 35, 36, 37, 38, 39, 40, 41, 42, 43, 44, 45, 46, 47, 48, 49, 50, 51, 52, 53, 54, 55, 56, 57, 58, 59, 60, 61, 62, 63, 64, 65, 66, 67, 68, 69, 70, 71, 72, 73, 74, 75, 76] (by decide +kernel) (by decide +kernel)) (goodIn_sub (fun _ h => List.mem_cons_of_mem _ (List.mem_append_right _ h)) (by decide +kernel))
set_option maxRecDepth 20000 in
theorem gL_isFaithful_X3_isFaithful : GoodIn wsL_isFaithful (wsV RL 84 RX3 yX3_isFaithful wsX3_isFaithful) := goodIn_app (goodIn_of _ (by decide +kernel)) ggL_isFaithful_X3_isFaithful
theorem dL_isFaithful_0 : decode cL_isFaithful 0 = .ok (.aload_n 1, 1) := by decide +kernel
theorem dL_isFaithful_1 : decode cL_isFaithful 1 = .ok (.iconst 0, 1) := by decide +kernel
theorem dL_isFaithful_2 : decode cL_isFaithful 2 = .ok (.aload_n 0, 1) := by decide +kernel
theorem dL_isFaithful_3 : decode cL_isFaithful 3 = .ok (.invokevirtual 84, 3) := by decide +kernel
theorem dL_isFaithful_6 : decode cL_isFaithful 6 = .ok (.ifCond .eq 7, 3) := by decide +kernel
theorem dL_isFaithful_9 : decode cL_isFaithful 9 = .ok (.lconst 1, 1) := by decide +kernel
theorem dL_isFaithful_10 : decode cL_isFaithful 10 = .ok (.goto 4, 3) := by decide +kernel
theorem dL_isFaithful_13 : decode cL_isFaithful 13 = .ok (.lconst 0, 1) := by decide +kernel
theorem dL_isFaithful_14 : decode cL_isFaithful 14 = .ok (.lastore, 1) := by decide +kernel
theorem dL_isFaithful_15 : decode cL_isFaithful 15 = .ok (.goto 6, 3) := by decide +kernel
theorem dL_isFaithful_18 : decode cL_isFaithful 18 = .ok (.astore_n 2, 1) := by decide +kernel
theorem dL_isFaithful_19 : decode cL_isFaithful 19 = .ok (.iconst 1, 1) := by decide +kernel
theorem dL_isFaithful_20 : decode cL_isFaithful 20 = .ok (.ireturn, 1) := by decide +kernel
theorem dL_isFaithful_21 : decode cL_isFaithful 21 = .ok (.iconst 0, 1) := by decide +kernel
theorem dL_isFaithful_22 : decode cL_isFaithful 22 = .ok (.ireturn, 1) := by decide +kernel
set_option maxRecDepth 20000 in
theorem ggL_law_X3_init : GoodIn wsL_law wsX3_init := goodIn_r _ [9, 10, 11, 12, 13, 14, 15, 16, 17, 18, 19, 20, 21, 22, 23, 24, 25, 26, 27, 28, 29, 30, 31, 32, 33, 34, 35, 36, 37, 38, 39, 40, 41, 42, 43, 44, 45, 46, 47, 48, 49, 50, 51, 760, 761, 762, 763, 764, 745, 746, 747, 765, 766, 767, 768, 769, 770, 771, 772, 773, 774, 775, 776, 777, 778, 779] (by decide +kernel) (by decide +kernel)
set_option maxRecDepth 20000 in
theorem gL_law_X3_init : GoodIn wsL_law (wsX3_init) := ggL_law_X3_init
set_option maxRecDepth 20000 in
theorem ggL_law_X4_init : GoodIn wsL_law wsX4_init := goodIn_r _ [54, 55, 11, 12, 56, 31, 57, 58, 59, 60, 748, 749, 750, 751, 752, 753, 754, 755, 756, 757, 758, 759] (by decide +kernel) (by decide +kernel)
set_option maxRecDepth 20000 in
theorem gL_law_X4_init : GoodIn wsL_law (wsX4_init) := ggL_law_X4_init
set_option maxRecDepth 20000 in
theorem ggL_law_L_addState : GoodIn wsL_law wsL_addState := goodIn_ca (goodIn_r _ [64, 65, 66, 67, 68, 2, 69, 70, 71, 16, 72, 73, 74, 75, 20, 24, 745, 746, 747, 760, 761, 762, 763, 764, 765, 766, 767, 768, 769, 770, 771, 772, 773, 774, 775, 776, 777, 778, 779] (by decide +kernel) (by decide +kernel)) (goodIn_sub (fun _ h => List.mem_append_left _ (List.mem_append_left _ (List.mem_append_right _ h))) (by decide +kernel))
set_option maxRecDepth 20000 in
theorem gL_law_L_addState : GoodIn wsL_law (va_wsS RL 92 yL_addState wsL_addState) := goodIn_app (goodIn_of _ (by decide +kernel)) ggL_law_L_addState
set_option maxRecDepth 20000 in
theorem ggL_law_X4_addState : GoodIn wsL_law wsX4_addState := goodIn_r _ [79, 80, 56, 81, 82, 83, 5, 84, 85, 86, 87, 88, 89, 90, 748, 749, 750, 751, 752, 753, 754, 755, 756, 757, 758, 759] (by decide +kernel) (by decide +kernel)
set_option maxRecDepth 20000 in
theorem gL_law_X4_addState : GoodIn wsL_law (wsV RL 97 RX4 yX4_addState wsX4_addState) := goodIn_app (goodIn_of _ (by decide +kernel)) ggL_law_X4_addState
set_option maxRecDepth 20000 in
theorem ggL_law_X4_thrown : GoodIn wsL_law wsX4_thrown := goodIn_r _ [94, 80, 748, 749, 750, 751, 752, 753, 754, 755, 756, 757, 758, 759] (by decide +kernel) (by decide +kernel)
set_option maxRecDepth 20000 in
theorem gL_law_X4_thrown : GoodIn wsL_law (wsV RL 98 RX4 yX4_thrown wsX4_thrown) := goodIn_app (goodIn_of _ (by decide +kernel)) ggL_law_X4_thrown
set_option maxRecDepth 20000 in
theorem ggL_law_L_step : GoodIn wsL_law wsL_step := goodIn_ca (goodIn_r _ [97, 98, 99, 100, 101, 2, 102, 16, 103, 104, 105, 106, 107, 108, 109, 110, 111, 112, 113, 114, 15, 115, 32, 116, 117, 118, 119, 120, 121, 122, 123, 33, 124, 125, 126, 127, 34, 35, 128, 129, 130, 131, 132, 133, 134, 135, 29, 72, 73, 74, 75, 20, 24, 745, 746, 747, 760, 761, 762, 763, 764, 765, 766, 767, 768, 769, 770, 771, 772, 773, 774, 775, 776, 777, 778, 779] (by decide +kernel) (by decide +kernel)) (goodIn_sub (fun _ h => List.mem_append_left _ (List.mem_append_right _ h)) (by decide +kernel))
set_option maxRecDepth 20000 in
theorem gL_law_L_step : GoodIn wsL_law (va_wsS RL 101 yL_step wsL_step) := goodIn_app (goodIn_of _ (by decide +kernel)) ggL_law_L_step
set_option maxRecDepth 20000 in
theorem ggL_law_X4_step : GoodIn wsL_law wsX4_step := goodIn_r _ [139, 80, 57, 140, 141, 142, 5, 143, 56, 144, 145, 146, 81, 82, 83, 84, 147, 148, 149, 150, 85, 86, 87, 88, 89, 90, 748, 749, 750, 751, 752, 753, 754, 755, 756, 757, 758, 759] (by decide +kernel) (by decide +kernel)
set_option maxRecDepth 20000 in
theorem gL_law_X4_step : GoodIn wsL_law (wsV RL 104 RX4 yX4_step wsX4_step) := goodIn_app (goodIn_of _ (by decide +kernel)) ggL_law_X4_step
set_option maxRecDepth 20000 in
theorem ggL_law_L_unstep : GoodIn wsL_law wsL_unstep := goodIn_ca (goodIn_r _ [153, 98, 154, 155, 156, 2, 157, 16, 103, 104, 105, 106, 107, 108, 109, 110, 111, 112, 113, 114, 15, 115, 32, 116, 117, 118, 119, 120, 121, 122, 123, 33, 124, 125, 126, 127, 34, 35, 128, 129, 130, 131, 132, 133, 134, 135, 29, 72, 73, 74, 75, 20, 24, 745, 746, 747, 760, 761, 762, 763, 764, 765, 766, 767, 768, 769, 770, 771, 772, 773, 774, 775, 776, 777, 778, 779] (by decide +kernel) (by decide +kernel)) (goodIn_sub (fun _ h => List.mem_append_left _ (List.mem_append_right _ h)) (by decide +kernel))
set_option maxRecDepth 20000 in
theorem gL_law_L_unstep : GoodIn wsL_law (va_wsS RL 105 yL_unstep wsL_unstep) := goodIn_app (goodIn_of _ (by decide +kernel)) ggL_law_L_unstep
set_option maxRecDepth 20000 in
theorem ggL_law_X4_unstep : GoodIn wsL_law wsX4_unstep := goodIn_r _ [161, 80, 57, 140, 141, 142, 5, 143, 56, 144, 145, 146, 147, 148, 149, 150, 85, 86, 87, 88, 89, 90, 748, 749, 750, 751, 752, 753, 754, 755, 756, 757, 758, 759] (by decide +kernel) (by decide +kernel)
set_option maxRecDepth 20000 in
theorem gL_law_X4_unstep : GoodIn wsL_law (wsV RL 108 RX4 yX4_unstep wsX4_unstep) := goodIn_app (goodIn_of _ (by decide +kernel)) ggL_law_X4_unstep
set_option maxRecDepth 20000 in
theorem ggL_law_L_rename : GoodIn wsL_law wsL_rename := goodIn_ca (goodIn_ca (goodIn_r _ [164, 98, 65, 165, 166, 167, 2, 168, 70, 71, 16, 109, 110, 111, 107, 108, 169, 170, 171, 15, 172, 33, 173, 174, 175, 176, 29, 32, 120, 121, 122, 123, 124, 125, 126, 127, 34, 35, 128, 129, 130, 131, 132, 133, 134, 135, 72, 73, 74, 75, 20, 24, 177, 178, 179, 180, 181, 182, 183, 745, 746, 747, 760, 761, 762, 763, 764, 765, 766, 767, 768, 769, 770, 771, 772, 773, 774, 775, 776, 777, 778, 779] (by decide +kernel) (by decide +kernel)) (goodIn_sub (fun _ h => List.mem_append_left _ (List.mem_append_left _ (List.mem_append_right _ h))) (by decide +kernel))) (goodIn_sub (fun _ h => List.mem_append_left _ (List.mem_append_right _ h)) (by decide +kernel))
set_option maxRecDepth 20000 in
theorem gL_law_L_rename : GoodIn wsL_law (va_wsS RL 109 yL_rename wsL_rename) := goodIn_app (goodIn_of _ (by decide +kernel)) ggL_law_L_rename
set_option maxRecDepth 20000 in
theorem ggL_law_X4_rename : GoodIn wsL_law wsX4_rename := goodIn_r _ [187, 80, 56, 57, 144, 145, 5, 146, 81, 82, 83, 84, 147, 148, 149, 150, 85, 86, 87, 88, 89, 90, 748, 749, 750, 751, 752, 753, 754, 755, 756, 757, 758, 759] (by decide +kernel) (by decide +kernel)
set_option maxRecDepth 20000 in
theorem gL_law_X4_rename : GoodIn wsL_law (wsV RL 111 RX4 yX4_rename wsX4_rename) := goodIn_app (goodIn_of _ (by decide +kernel)) ggL_law_X4_rename
set_option maxRecDepth 20000 in
theorem ggL_law_X3_stateCount : GoodIn wsL_law wsX3_stateCount := goodIn_r _ [191, 16, 745, 746, 747, 760, 761, 762, 763, 764] (by decide +kernel) (by decide +kernel)
set_option maxRecDepth 20000 in
theorem gL_law_X3_stateCount : GoodIn wsL_law (wsV RL 112 RX3 yX3_stateCount wsX3_stateCount) := goodIn_app (goodIn_of _ (by decide +kernel)) ggL_law_X3_stateCount
set_option maxRecDepth 20000 in
theorem ggL_law_X4_stateCount : GoodIn wsL_law wsX4_stateCount := goodIn_r _ [195, 80, 56, 748, 749, 750, 751, 752, 753, 754, 755, 756, 757, 758, 759] (by decide +kernel) (by decide +kernel)
set_option maxRecDepth 20000 in
theorem gL_law_X4_stateCount : GoodIn wsL_law (wsV RL 115 RX4 yX4_stateCount wsX4_stateCount) := goodIn_app (goodIn_of _ (by decide +kernel)) ggL_law_X4_stateCount
set_option maxRecDepth 20000 in
theorem ggL_law_L_target : GoodIn wsL_law wsL_target := goodIn_ca (goodIn_r _ [198, 98, 199, 200, 201, 2, 202, 16, 103, 104, 105, 106, 107, 108, 109, 110, 111, 112, 113, 114, 15, 115, 32, 745, 746, 747, 760, 761, 762, 763, 764] (by decide +kernel) (by decide +kernel)) (goodIn_sub (fun _ h => List.mem_append_left _ (List.mem_append_right _ h)) (by decide +kernel))
set_option maxRecDepth 20000 in
theorem gL_law_L_target : GoodIn wsL_law (va_wsS RL 116 yL_target wsL_target) := goodIn_app (goodIn_of _ (by decide +kernel)) ggL_law_L_target
set_option maxRecDepth 20000 in
theorem ggL_law_X4_target : GoodIn wsL_law wsX4_target := goodIn_r _ [206, 80, 140, 141, 142, 5, 143, 56, 144, 145, 146, 147, 148, 149, 150, 57, 81, 82, 83, 84, 748, 749, 750, 751, 752, 753, 754, 755, 756, 757, 758, 759] (by decide +kernel) (by decide +kernel)
set_option maxRecDepth 20000 in
theorem gL_law_X4_target : GoodIn wsL_law (wsV RL 118 RX4 yX4_target wsX4_target) := goodIn_app (goodIn_of _ (by decide +kernel)) ggL_law_X4_target
set_option maxRecDepth 20000 in
theorem ggL_law_L_enabled : GoodIn wsL_law wsL_enabled := goodIn_ca (goodIn_r _ [209, 98, 210, 211, 212, 2, 213, 16, 103, 104, 105, 106, 107, 108, 112, 113, 114, 15, 115, 32, 745, 746, 747, 760, 761, 762, 763, 764] (by decide +kernel) (by decide +kernel)) (goodIn_sub (fun _ h => List.mem_append_left _ (List.mem_append_right _ h)) (by decide +kernel))
set_option maxRecDepth 20000 in
theorem gL_law_L_enabled : GoodIn wsL_law (va_wsS RL 119 yL_enabled wsL_enabled) := goodIn_app (goodIn_of _ (by decide +kernel)) ggL_law_L_enabled
set_option maxRecDepth 20000 in
theorem ggL_law_X4_enabled : GoodIn wsL_law wsX4_enabled := goodIn_r _ [217, 80, 140, 141, 142, 5, 143, 56, 81, 82, 83, 84, 147, 148, 149, 150, 57, 748, 749, 750, 751, 752, 753, 754, 755, 756, 757, 758, 759] (by decide +kernel) (by decide +kernel)
set_option maxRecDepth 20000 in
theorem gL_law_X4_enabled : GoodIn wsL_law (wsV RL 122 RX4 yX4_enabled wsX4_enabled) := goodIn_app (goodIn_of _ (by decide +kernel)) ggL_law_X4_enabled
set_option maxRecDepth 20000 in
theorem ggL_law_X3_reached : GoodIn wsL_law wsX3_reached := goodIn_r _ [221, 16, 222, 223, 224, 15, 225, 29, 226, 227, 228, 229, 32, 230, 2, 231, 745, 746, 747, 760, 761, 762, 763, 764] (by decide +kernel) (by decide +kernel)
set_option maxRecDepth 20000 in
theorem gL_law_X3_reached : GoodIn wsL_law (wsV RL 123 RX3 yX3_reached wsX3_reached) := goodIn_app (goodIn_of _ (by decide +kernel)) ggL_law_X3_reached
set_option maxRecDepth 20000 in
theorem ggL_law_X4_reached : GoodIn wsL_law wsX4_reached := goodIn_r _ [235, 80, 236, 237, 238, 5, 239, 56, 240, 241, 242, 147, 148, 149, 150, 57, 748, 749, 750, 751, 752, 753, 754, 755, 756, 757, 758, 759] (by decide +kernel) (by decide +kernel)
set_option maxRecDepth 20000 in
theorem gL_law_X4_reached : GoodIn wsL_law (wsV RL 126 RX4 yX4_reached wsX4_reached) := goodIn_app (goodIn_of _ (by decide +kernel)) ggL_law_X4_reached
set_option maxRecDepth 20000 in
theorem ggL_law_L_distance : GoodIn wsL_law wsL_distance := goodIn_ca (goodIn_r _ [245, 98, 246, 247, 248, 2, 249, 16, 103, 104, 105, 106, 107, 108, 250, 251, 252, 15, 253, 29, 230, 231, 226, 227, 228, 229, 32, 745, 746, 747, 760, 761, 762, 763, 764] (by decide +kernel) (by decide +kernel)) (goodIn_sub (fun _ h => List.mem_append_left _ (List.mem_append_right _ h)) (by decide +kernel))
set_option maxRecDepth 20000 in
theorem gL_law_L_distance : GoodIn wsL_law (va_wsS RL 127 yL_distance wsL_distance) := goodIn_app (goodIn_of _ (by decide +kernel)) ggL_law_L_distance
set_option maxRecDepth 20000 in
theorem ggL_law_X4_distance : GoodIn wsL_law wsX4_distance := goodIn_r _ [257, 80, 140, 141, 142, 5, 143, 56, 81, 82, 83, 84, 240, 241, 242, 236, 237, 238, 239, 147, 148, 149, 150, 57, 748, 749, 750, 751, 752, 753, 754, 755, 756, 757, 758, 759] (by decide +kernel) (by decide +kernel)
set_option maxRecDepth 20000 in
theorem gL_law_X4_distance : GoodIn wsL_law (wsV RL 129 RX4 yX4_distance wsX4_distance) := goodIn_app (goodIn_of _ (by decide +kernel)) ggL_law_X4_distance
set_option maxRecDepth 20000 in
theorem ggL_law_L_crossing : GoodIn wsL_law wsL_crossing := goodIn_ca (goodIn_ca (goodIn_r _ [260, 261, 98, 262, 263, 264, 2, 265, 16, 266, 267, 268, 269, 270, 271, 272, 273, 274, 15, 275, 29, 109, 110, 111, 107, 108, 276, 277, 278, 279, 33, 34, 35, 745, 746, 747, 760, 761, 762, 763, 764] (by decide +kernel) (by decide +kernel)) (goodIn_sub (fun _ h => List.mem_append_right _ h) (by decide +kernel))) (goodIn_sub (fun _ h => List.mem_append_left _ (List.mem_append_right _ h)) (by decide +kernel))
set_option maxRecDepth 20000 in
theorem gL_law_L_crossing : GoodIn wsL_law (va_wsS RL 130 yL_crossing wsL_crossing) := goodIn_app (goodIn_of _ (by decide +kernel)) ggL_law_L_crossing
set_option maxRecDepth 20000 in
theorem ggL_law_X4_crossing : GoodIn wsL_law wsX4_crossing := goodIn_r _ [283, 80, 284, 285, 286, 5, 287, 56, 81, 82, 83, 84, 144, 145, 146, 288, 289, 290, 291, 147, 148, 149, 150, 57, 240, 241, 242, 748, 749, 750, 751, 752, 753, 754, 755, 756, 757, 758, 759] (by decide +kernel) (by decide +kernel)
set_option maxRecDepth 20000 in
theorem gL_law_X4_crossing : GoodIn wsL_law (wsV RL 132 RX4 yX4_crossing wsX4_crossing) := goodIn_app (goodIn_of _ (by decide +kernel)) ggL_law_X4_crossing
set_option maxRecDepth 20000 in
theorem ggL_law_L_isRegion : GoodIn wsL_law wsL_isRegion := goodIn_ca (goodIn_r _ [294, 261, 295, 296, 297, 2, 298, 20, 266, 267, 268, 269, 270, 271, 16, 272, 273, 274, 15, 275, 29, 299, 300, 301, 19, 302, 40, 303, 304, 305, 306, 307, 308, 277, 278, 279, 33, 34, 35, 745, 746, 747, 760, 761, 762, 763, 764, 765, 766, 767, 768] (by decide +kernel) (by decide +kernel)) (goodIn_sub (fun _ h => List.mem_append_right _ h) (by decide +kernel))
set_option maxRecDepth 20000 in
theorem gL_law_L_isRegion : GoodIn wsL_law (va_wsS RL 133 yL_isRegion wsL_isRegion) := goodIn_app (goodIn_of _ (by decide +kernel)) ggL_law_L_isRegion
set_option maxRecDepth 20000 in
theorem ggL_law_X4_isRegion : GoodIn wsL_law wsX4_isRegion := goodIn_r _ [312, 80, 284, 285, 286, 5, 287, 56, 313, 314, 315, 316, 317, 318, 319, 320, 288, 289, 290, 291, 147, 148, 149, 150, 57, 240, 241, 242, 748, 749, 750, 751, 752, 753, 754, 755, 756, 757, 758, 759] (by decide +kernel) (by decide +kernel)
set_option maxRecDepth 20000 in
theorem gL_law_X4_isRegion : GoodIn wsL_law (wsV RL 135 RX4 yX4_isRegion wsX4_isRegion) := goodIn_app (goodIn_of _ (by decide +kernel)) ggL_law_X4_isRegion
set_option maxRecDepth 20000 in
theorem ggL_law_X3_regionCount : GoodIn wsL_law wsX3_regionCount := goodIn_r _ [324, 20, 325, 326, 327, 19, 328, 329, 330, 331, 332, 333, 334, 40, 41, 303, 273, 274, 15, 275, 29, 304, 305, 306, 307, 308, 277, 278, 279, 33, 34, 35, 745, 746, 747, 765, 766, 767, 768, 760, 761, 762, 763, 764] (by decide +kernel) (by decide +kernel)
set_option maxRecDepth 20000 in
theorem gL_law_X3_regionCount : GoodIn wsL_law (wsV RL 136 RX3 yX3_regionCount wsX3_regionCount) := goodIn_app (goodIn_of _ (by decide +kernel)) ggL_law_X3_regionCount
set_option maxRecDepth 20000 in
theorem ggL_law_X4_regionCount : GoodIn wsL_law wsX4_regionCount := goodIn_r _ [338, 80, 339, 340, 341, 342, 5, 343, 89, 56, 58, 313, 314, 315, 316, 317, 318, 319, 320, 288, 289, 290, 291, 147, 148, 149, 150, 57, 240, 241, 242, 748, 749, 750, 751, 752, 753, 754, 755, 756, 757, 758, 759] (by decide +kernel) (by decide +kernel)
set_option maxRecDepth 20000 in
theorem gL_law_X4_regionCount : GoodIn wsL_law (wsV RL 139 RX4 yX4_regionCount wsX4_regionCount) := goodIn_app (goodIn_of _ (by decide +kernel)) ggL_law_X4_regionCount
set_option maxRecDepth 20000 in
theorem ggL_law_L_region : GoodIn wsL_law wsL_region := goodIn_ca (goodIn_r _ [346, 98, 347, 348, 349, 2, 350, 20, 351, 352, 353, 354, 107, 108, 325, 326, 327, 19, 328, 329, 330, 331, 332, 333, 334, 40, 41, 303, 273, 274, 15, 275, 29, 304, 305, 306, 307, 308, 277, 278, 279, 33, 34, 35, 355, 356, 357, 358, 745, 746, 747, 765, 766, 767, 768, 760, 761, 762, 763, 764] (by decide +kernel) (by decide +kernel)) (goodIn_sub (fun _ h => List.mem_append_left _ (List.mem_append_right _ h)) (by decide +kernel))
set_option maxRecDepth 20000 in
theorem gL_law_L_region : GoodIn wsL_law (va_wsS RL 140 yL_region wsL_region) := goodIn_app (goodIn_of _ (by decide +kernel)) ggL_law_L_region
set_option maxRecDepth 20000 in
theorem ggL_law_X4_region : GoodIn wsL_law wsX4_region := goodIn_r _ [362, 80, 339, 58, 340, 341, 342, 5, 343, 89, 56, 313, 314, 315, 316, 317, 318, 319, 320, 288, 289, 290, 291, 147, 148, 149, 150, 57, 240, 241, 242, 81, 82, 83, 84, 748, 749, 750, 751, 752, 753, 754, 755, 756, 757, 758, 759] (by decide +kernel) (by decide +kernel)
set_option maxRecDepth 20000 in
theorem gL_law_X4_region : GoodIn wsL_law (wsV RL 142 RX4 yX4_region wsX4_region) := goodIn_app (goodIn_of _ (by decide +kernel)) ggL_law_X4_region
set_option maxRecDepth 20000 in
theorem ggL_law_L_isLeast : GoodIn wsL_law wsL_isLeast := goodIn_ca (goodIn_r _ [365, 98, 366, 367, 368, 2, 369, 20, 351, 352, 353, 354, 107, 108, 325, 326, 327, 19, 328, 329, 330, 331, 332, 333, 334, 40, 41, 303, 273, 274, 15, 275, 29, 304, 305, 306, 307, 308, 277, 278, 279, 33, 34, 35, 370, 371, 372, 373, 745, 746, 747, 765, 766, 767, 768, 760, 761, 762, 763, 764] (by decide +kernel) (by decide +kernel)) (goodIn_sub (fun _ h => List.mem_append_left _ (List.mem_append_right _ h)) (by decide +kernel))
set_option maxRecDepth 20000 in
theorem gL_law_L_isLeast : GoodIn wsL_law (va_wsS RL 143 yL_isLeast wsL_isLeast) := goodIn_app (goodIn_of _ (by decide +kernel)) ggL_law_L_isLeast
set_option maxRecDepth 20000 in
theorem ggL_law_X4_isLeast : GoodIn wsL_law wsX4_isLeast := goodIn_r _ [377, 339, 80, 340, 341, 342, 5, 343, 89, 56, 58, 313, 314, 315, 316, 317, 318, 319, 320, 288, 289, 290, 291, 147, 148, 149, 150, 57, 240, 241, 242, 378, 379, 380, 381, 748, 749, 750, 751, 752, 753, 754, 755, 756, 757, 758, 759] (by decide +kernel) (by decide +kernel)
set_option maxRecDepth 20000 in
theorem gL_law_X4_isLeast : GoodIn wsL_law (wsV RL 145 RX4 yX4_isLeast wsX4_isLeast) := goodIn_app (goodIn_of _ (by decide +kernel)) ggL_law_X4_isLeast
set_option maxRecDepth 20000 in
theorem ggL_law_L_grow : GoodIn wsL_law wsL_grow := goodIn_ca (goodIn_r _ [384, 261, 385, 386, 387, 2, 388, 16, 266, 267, 268, 269, 270, 271, 272, 273, 274, 15, 275, 29, 389, 390, 391, 392, 393, 305, 306, 307, 308, 277, 278, 279, 33, 34, 35, 394, 395, 396, 397, 398, 399, 400, 401, 32, 745, 746, 747, 760, 761, 762, 763, 764] (by decide +kernel) (by decide +kernel)) (goodIn_sub (fun _ h => List.mem_append_right _ h) (by decide +kernel))
set_option maxRecDepth 20000 in
theorem gL_law_L_grow : GoodIn wsL_law (va_wsS RL 146 yL_grow wsL_grow) := goodIn_app (goodIn_of _ (by decide +kernel)) ggL_law_L_grow
set_option maxRecDepth 20000 in
theorem ggL_law_X4_grow : GoodIn wsL_law wsX4_grow := goodIn_r _ [405, 80, 284, 285, 286, 5, 287, 56, 81, 82, 83, 84, 317, 318, 319, 320, 288, 289, 290, 291, 147, 148, 149, 150, 57, 240, 241, 242, 406, 407, 408, 409, 748, 749, 750, 751, 752, 753, 754, 755, 756, 757, 758, 759] (by decide +kernel) (by decide +kernel)
set_option maxRecDepth 20000 in
theorem gL_law_X4_grow : GoodIn wsL_law (wsV RL 148 RX4 yX4_grow wsX4_grow) := goodIn_app (goodIn_of _ (by decide +kernel)) ggL_law_X4_grow
set_option maxRecDepth 20000 in
theorem ggL_law_L_apart : GoodIn wsL_law wsL_apart := goodIn_ca (goodIn_r _ [412, 98, 413, 414, 415, 2, 416, 20, 103, 104, 105, 106, 107, 108, 16, 417, 418, 419, 19, 420, 41, 421, 326, 327, 328, 329, 330, 331, 332, 333, 334, 40, 303, 273, 274, 15, 275, 29, 304, 305, 306, 307, 308, 277, 278, 279, 33, 34, 35, 230, 231, 745, 746, 747, 760, 761, 762, 763, 764, 765, 766, 767, 768] (by decide +kernel) (by decide +kernel)) (goodIn_sub (fun _ h => List.mem_append_left _ (List.mem_append_right _ h)) (by decide +kernel))
set_option maxRecDepth 20000 in
theorem gL_law_L_apart : GoodIn wsL_law (va_wsS RL 149 yL_apart wsL_apart) := goodIn_app (goodIn_of _ (by decide +kernel)) ggL_law_L_apart
set_option maxRecDepth 20000 in
theorem ggL_law_X4_apart : GoodIn wsL_law wsX4_apart := goodIn_r _ [425, 80, 140, 141, 142, 5, 143, 56, 426, 427, 428, 429, 339, 58, 340, 341, 342, 343, 89, 313, 314, 315, 316, 317, 318, 319, 320, 288, 289, 290, 291, 147, 148, 149, 150, 57, 240, 241, 242, 81, 82, 83, 84, 748, 749, 750, 751, 752, 753, 754, 755, 756, 757, 758, 759] (by decide +kernel) (by decide +kernel)
set_option maxRecDepth 20000 in
theorem gL_law_X4_apart : GoodIn wsL_law (wsV RL 151 RX4 yX4_apart wsX4_apart) := goodIn_app (goodIn_of _ (by decide +kernel)) ggL_law_X4_apart
set_option maxRecDepth 20000 in
theorem ggL_law_L_preventer : GoodIn wsL_law wsL_preventer := goodIn_ca (goodIn_r _ [432, 98, 433, 434, 435, 2, 436, 16, 20, 103, 104, 105, 106, 107, 108, 109, 110, 111, 112, 113, 114, 15, 115, 32, 437, 438, 439, 19, 440, 41, 421, 326, 327, 328, 329, 330, 331, 332, 333, 334, 40, 303, 273, 274, 275, 29, 304, 305, 306, 307, 308, 277, 278, 279, 33, 34, 35, 441, 442, 443, 444, 445, 230, 231, 745, 746, 747, 760, 761, 762, 763, 764, 765, 766, 767, 768] (by decide +kernel) (by decide +kernel)) (goodIn_sub (fun _ h => List.mem_append_left _ (List.mem_append_right _ h)) (by decide +kernel))
set_option maxRecDepth 20000 in
theorem gL_law_L_preventer : GoodIn wsL_law (va_wsS RL 152 yL_preventer wsL_preventer) := goodIn_app (goodIn_of _ (by decide +kernel)) ggL_law_L_preventer
set_option maxRecDepth 20000 in
theorem ggL_law_X4_preventer : GoodIn wsL_law wsX4_preventer := goodIn_r _ [449, 80, 140, 141, 142, 5, 143, 56, 144, 145, 146, 81, 82, 83, 84, 147, 148, 149, 150, 57, 450, 451, 452, 453, 339, 58, 340, 341, 342, 343, 89, 313, 314, 315, 316, 317, 318, 319, 320, 288, 289, 290, 291, 240, 241, 242, 748, 749, 750, 751, 752, 753, 754, 755, 756, 757, 758, 759] (by decide +kernel) (by decide +kernel)
set_option maxRecDepth 20000 in
theorem gL_law_X4_preventer : GoodIn wsL_law (wsV RL 154 RX4 yX4_preventer wsX4_preventer) := goodIn_app (goodIn_of _ (by decide +kernel)) ggL_law_X4_preventer
set_option maxRecDepth 20000 in
theorem ggL_law_X3_lumps : GoodIn wsL_law wsX3_lumps := goodIn_r _ [457, 20, 458, 459, 460, 19, 461, 40, 462, 418, 419, 420, 41, 421, 326, 327, 328, 329, 330, 331, 332, 333, 334, 303, 273, 274, 15, 275, 29, 304, 305, 306, 307, 308, 277, 278, 279, 33, 34, 35, 230, 2, 231, 745, 746, 747, 765, 766, 767, 768, 760, 761, 762, 763, 764] (by decide +kernel) (by decide +kernel)
set_option maxRecDepth 20000 in
theorem gL_law_X3_lumps : GoodIn wsL_law (wsV RL 155 RX3 yX3_lumps wsX3_lumps) := goodIn_app (goodIn_of _ (by decide +kernel)) ggL_law_X3_lumps
set_option maxRecDepth 20000 in
theorem ggL_law_X4_lumps : GoodIn wsL_law wsX4_lumps := goodIn_r _ [466, 80, 467, 468, 469, 5, 470, 56, 426, 427, 428, 429, 339, 58, 340, 341, 342, 343, 89, 313, 314, 315, 316, 317, 318, 319, 320, 288, 289, 290, 291, 147, 148, 149, 150, 57, 240, 241, 242, 748, 749, 750, 751, 752, 753, 754, 755, 756, 757, 758, 759] (by decide +kernel) (by decide +kernel)
set_option maxRecDepth 20000 in
theorem gL_law_X4_lumps : GoodIn wsL_law (wsV RL 158 RX4 yX4_lumps wsX4_lumps) := goodIn_app (goodIn_of _ (by decide +kernel)) ggL_law_X4_lumps
set_option maxRecDepth 20000 in
theorem ggL_law_X3_leaks : GoodIn wsL_law wsX3_leaks := goodIn_r _ [474, 20, 475, 476, 477, 19, 478, 40, 479, 480, 481, 15, 482, 33, 483, 273, 274, 275, 29, 484, 485, 486, 487, 41, 421, 326, 327, 328, 329, 330, 331, 332, 333, 334, 303, 304, 305, 306, 307, 308, 277, 278, 279, 34, 35, 445, 488, 178, 179, 180, 181, 182, 183, 745, 746, 747, 765, 766, 767, 768, 760, 761, 762, 763, 764] (by decide +kernel) (by decide +kernel)
set_option maxRecDepth 20000 in
theorem gL_law_X3_leaks : GoodIn wsL_law (wsV RL 159 RX3 yX3_leaks wsX3_leaks) := goodIn_app (goodIn_of _ (by decide +kernel)) ggL_law_X3_leaks
set_option maxRecDepth 20000 in
theorem ggL_law_X4_leaks : GoodIn wsL_law wsX4_leaks := goodIn_r _ [492, 80, 493, 494, 495, 5, 496, 56, 497, 498, 499, 500, 147, 148, 149, 150, 57, 406, 407, 408, 409, 450, 451, 452, 453, 339, 58, 340, 341, 342, 343, 89, 313, 314, 315, 316, 317, 318, 319, 320, 288, 289, 290, 291, 240, 241, 242, 748, 749, 750, 751, 752, 753, 754, 755, 756, 757, 758, 759] (by decide +kernel) (by decide +kernel)
set_option maxRecDepth 20000 in
theorem gL_law_X4_leaks : GoodIn wsL_law (wsV RL 162 RX4 yX4_leaks wsX4_leaks) := goodIn_app (goodIn_of _ (by decide +kernel)) ggL_law_X4_leaks
set_option maxRecDepth 20000 in
theorem ggL_law_X3_fidelity : GoodIn wsL_law wsX3_fidelity := goodIn_r _ [504, 16, 20, 505, 506, 507, 15, 508, 29, 509, 510, 511, 512, 513, 480, 481, 482, 33, 483, 273, 274, 275, 514, 178, 179, 180, 181, 182, 183, 458, 459, 460, 19, 461, 40, 462, 418, 419, 420, 41, 421, 326, 327, 328, 329, 330, 331, 332, 333, 334, 303, 304, 305, 306, 307, 308, 277, 278, 279, 34, 35, 230, 2, 231, 475, 476, 477, 478, 479, 484, 485, 486, 487, 445, 488, 745, 746, 747, 760, 761, 762, 763, 764, 765, 766, 767, 768] (by decide +kernel) (by decide +kernel)
set_option maxRecDepth 20000 in
theorem gL_law_X3_fidelity : GoodIn wsL_law (wsV RL 163 RX3 yX3_fidelity wsX3_fidelity) := goodIn_app (goodIn_of _ (by decide +kernel)) ggL_law_X3_fidelity
set_option maxRecDepth 20000 in
theorem ggL_law_X4_fidelity : GoodIn wsL_law wsX4_fidelity := goodIn_r _ [518, 80, 56, 497, 498, 499, 5, 500, 147, 148, 149, 150, 57, 406, 407, 408, 409, 467, 468, 469, 470, 426, 427, 428, 429, 339, 58, 340, 341, 342, 343, 89, 313, 314, 315, 316, 317, 318, 319, 320, 288, 289, 290, 291, 240, 241, 242, 493, 494, 495, 496, 450, 451, 452, 453, 748, 749, 750, 751, 752, 753, 754, 755, 756, 757, 758, 759] (by decide +kernel) (by decide +kernel)
set_option maxRecDepth 20000 in
theorem gL_law_X4_fidelity : GoodIn wsL_law (wsV RL 167 RX4 yX4_fidelity wsX4_fidelity) := goodIn_app (goodIn_of _ (by decide +kernel)) ggL_law_X4_fidelity
set_option maxRecDepth 20000 in
theorem ggL_law_X3_makeNet : GoodIn wsL_law wsX3_makeNet := goodIn_r _ [522, 24, 523, 524, 525, 23, 526, 49, 50, 527, 528, 529, 530, 531, 532, 533, 534, 47, 48, 535, 326, 327, 19, 328, 329, 330, 331, 332, 333, 334, 40, 41, 303, 273, 274, 15, 275, 29, 304, 305, 306, 307, 308, 277, 278, 279, 33, 34, 35, 536, 356, 357, 358, 537, 538, 539, 540, 541, 542, 543, 544, 46, 545, 546, 547, 548, 549, 230, 2, 231, 745, 746, 747, 769, 770, 771, 772, 773, 774, 775, 776, 777, 778, 779, 765, 766, 767, 768, 760, 761, 762, 763, 764] (by decide +kernel) (by decide +kernel)
set_option maxRecDepth 20000 in
theorem gL_law_X3_makeNet : GoodIn wsL_law (wsV RL 168 RX3 yX3_makeNet wsX3_makeNet) := goodIn_app (goodIn_of _ (by decide +kernel)) ggL_law_X3_makeNet
set_option maxRecDepth 20000 in
theorem ggL_law_X4_makeNet : GoodIn wsL_law wsX4_makeNet := goodIn_r _ [553, 80, 90, 554, 339, 59, 58, 555, 340, 341, 342, 5, 343, 89, 56, 313, 314, 315, 316, 317, 318, 319, 320, 288, 289, 290, 291, 147, 148, 149, 150, 57, 240, 241, 242, 378, 379, 380, 381, 556, 557, 558, 559, 60, 560, 561, 562, 563, 564, 565, 566, 567, 568, 569, 570, 571, 572, 406, 407, 408, 409, 573, 574, 575, 576, 748, 749, 750, 751, 752, 753, 754, 755, 756, 757, 758, 759] (by decide +kernel) (by decide +kernel)
set_option maxRecDepth 20000 in
theorem gL_law_X4_makeNet : GoodIn wsL_law (wsV RL 171 RX4 yX4_makeNet wsX4_makeNet) := goodIn_app (goodIn_of _ (by decide +kernel)) ggL_law_X4_makeNet
set_option maxRecDepth 20000 in
theorem ggL_law_X3_hasNet : GoodIn wsL_law wsX3_hasNet := goodIn_r _ [580, 24, 745, 746, 747, 769, 770, 771, 772, 773, 774, 775, 776, 777, 778, 779] (by decide +kernel) (by decide +kernel)
set_option maxRecDepth 20000 in
theorem gL_law_X3_hasNet : GoodIn wsL_law (wsV RL 172 RX3 yX3_hasNet wsX3_hasNet) := goodIn_app (goodIn_of _ (by decide +kernel)) ggL_law_X3_hasNet
set_option maxRecDepth 20000 in
theorem ggL_law_X4_hasNet : GoodIn wsL_law wsX4_hasNet := goodIn_r _ [584, 80, 90, 748, 749, 750, 751, 752, 753, 754, 755, 756, 757, 758, 759] (by decide +kernel) (by decide +kernel)
set_option maxRecDepth 20000 in
theorem gL_law_X4_hasNet : GoodIn wsL_law (wsV RL 175 RX4 yX4_hasNet wsX4_hasNet) := goodIn_app (goodIn_of _ (by decide +kernel)) ggL_law_X4_hasNet
set_option maxRecDepth 20000 in
theorem ggL_law_L_placeRegion : GoodIn wsL_law wsL_placeRegion := goodIn_ca (goodIn_ca (goodIn_r _ [587, 65, 98, 588, 589, 590, 2, 591, 107, 108, 24, 592, 593, 594, 595, 70, 71, 596, 597, 598, 23, 599, 48, 745, 746, 747, 769, 770, 771, 772, 773, 774, 775, 776, 777, 778, 779] (by decide +kernel) (by decide +kernel)) (goodIn_sub (fun _ h => List.mem_append_left _ (List.mem_append_right _ h)) (by decide +kernel))) (goodIn_sub (fun _ h => List.mem_append_left _ (List.mem_append_left _ (List.mem_append_right _ h))) (by decide +kernel))
set_option maxRecDepth 20000 in
theorem gL_law_L_placeRegion : GoodIn wsL_law (va_wsS RL 176 yL_placeRegion wsL_placeRegion) := goodIn_app (goodIn_of _ (by decide +kernel)) ggL_law_L_placeRegion
set_option maxRecDepth 20000 in
theorem ggL_law_X4_placeRegion : GoodIn wsL_law wsX4_placeRegion := goodIn_r _ [603, 554, 59, 604, 605, 606, 5, 607, 90, 80, 748, 749, 750, 751, 752, 753, 754, 755, 756, 757, 758, 759] (by decide +kernel) (by decide +kernel)
set_option maxRecDepth 20000 in
theorem gL_law_X4_placeRegion : GoodIn wsL_law (wsV RL 178 RX4 yX4_placeRegion wsX4_placeRegion) := goodIn_app (goodIn_of _ (by decide +kernel)) ggL_law_X4_placeRegion
set_option maxRecDepth 20000 in
theorem ggL_law_L_consumed : GoodIn wsL_law wsL_consumed := goodIn_ca (goodIn_ca (goodIn_r _ [610, 65, 98, 611, 612, 613, 2, 614, 24, 592, 593, 594, 595, 70, 71, 109, 110, 111, 107, 108, 615, 616, 617, 23, 618, 49, 745, 746, 747, 769, 770, 771, 772, 773, 774, 775, 776, 777, 778, 779] (by decide +kernel) (by decide +kernel)) (goodIn_sub (fun _ h => List.mem_append_left _ (List.mem_append_left _ (List.mem_append_right _ h))) (by decide +kernel))) (goodIn_sub (fun _ h => List.mem_append_left _ (List.mem_append_right _ h)) (by decide +kernel))
set_option maxRecDepth 20000 in
theorem gL_law_L_consumed : GoodIn wsL_law (va_wsS RL 179 yL_consumed wsL_consumed) := goodIn_app (goodIn_of _ (by decide +kernel)) ggL_law_L_consumed
set_option maxRecDepth 20000 in
theorem ggL_law_X4_consumed : GoodIn wsL_law wsX4_consumed := goodIn_r _ [622, 604, 605, 606, 5, 607, 90, 80, 569, 570, 571, 572, 554, 59, 288, 289, 290, 291, 56, 147, 148, 149, 150, 57, 240, 241, 242, 748, 749, 750, 751, 752, 753, 754, 755, 756, 757, 758, 759] (by decide +kernel) (by decide +kernel)
set_option maxRecDepth 20000 in
theorem gL_law_X4_consumed : GoodIn wsL_law (wsV RL 181 RX4 yX4_consumed wsX4_consumed) := goodIn_app (goodIn_of _ (by decide +kernel)) ggL_law_X4_consumed
set_option maxRecDepth 20000 in
theorem ggL_law_L_produced : GoodIn wsL_law wsL_produced := goodIn_ca (goodIn_ca (goodIn_r _ [625, 65, 98, 626, 627, 628, 2, 629, 24, 592, 593, 594, 595, 70, 71, 109, 110, 111, 107, 108, 630, 631, 632, 23, 633, 50, 745, 746, 747, 769, 770, 771, 772, 773, 774, 775, 776, 777, 778, 779] (by decide +kernel) (by decide +kernel)) (goodIn_sub (fun _ h => List.mem_append_left _ (List.mem_append_left _ (List.mem_append_right _ h))) (by decide +kernel))) (goodIn_sub (fun _ h => List.mem_append_left _ (List.mem_append_right _ h)) (by decide +kernel))
set_option maxRecDepth 20000 in
theorem gL_law_L_produced : GoodIn wsL_law (va_wsS RL 182 yL_produced wsL_produced) := goodIn_app (goodIn_of _ (by decide +kernel)) ggL_law_L_produced
set_option maxRecDepth 20000 in
theorem ggL_law_X4_produced : GoodIn wsL_law wsX4_produced := goodIn_r _ [637, 604, 605, 606, 5, 607, 90, 80, 569, 570, 571, 572, 554, 59, 288, 289, 290, 291, 56, 147, 148, 149, 150, 57, 240, 241, 242, 748, 749, 750, 751, 752, 753, 754, 755, 756, 757, 758, 759] (by decide +kernel) (by decide +kernel)
set_option maxRecDepth 20000 in
theorem gL_law_X4_produced : GoodIn wsL_law (wsV RL 184 RX4 yX4_produced wsX4_produced) := goodIn_app (goodIn_of _ (by decide +kernel)) ggL_law_X4_produced
set_option maxRecDepth 20000 in
theorem ggL_law_L_marking : GoodIn wsL_law wsL_marking := goodIn_ca (goodIn_r _ [640, 65, 641, 642, 643, 2, 644, 24, 592, 593, 594, 595, 70, 71, 745, 746, 747, 769, 770, 771, 772, 773, 774, 775, 776, 777, 778, 779] (by decide +kernel) (by decide +kernel)) (goodIn_sub (fun _ h => List.mem_append_left _ (List.mem_append_left _ (List.mem_append_right _ h))) (by decide +kernel))
set_option maxRecDepth 20000 in
theorem gL_law_L_marking : GoodIn wsL_law (va_wsS RL 185 yL_marking wsL_marking) := goodIn_app (goodIn_of _ (by decide +kernel)) ggL_law_L_marking
set_option maxRecDepth 20000 in
theorem ggL_law_X4_marking : GoodIn wsL_law wsX4_marking := goodIn_r _ [648, 555, 604, 605, 606, 5, 607, 90, 80, 748, 749, 750, 751, 752, 753, 754, 755, 756, 757, 758, 759] (by decide +kernel) (by decide +kernel)
set_option maxRecDepth 20000 in
theorem gL_law_X4_marking : GoodIn wsL_law (wsV RL 187 RX4 yX4_marking wsX4_marking) := goodIn_app (goodIn_of _ (by decide +kernel)) ggL_law_X4_marking
set_option maxRecDepth 20000 in
theorem ggL_law_L_fire : GoodIn wsL_law wsL_fire := goodIn_ca (goodIn_ca (goodIn_r _ [651, 65, 98, 652, 653, 654, 2, 655, 24, 592, 593, 594, 595, 70, 71, 109, 110, 111, 107, 108, 656, 657, 658, 23, 659, 46, 49, 50, 660, 170, 171, 15, 172, 33, 661, 662, 663, 664, 745, 746, 747, 769, 770, 771, 772, 773, 774, 775, 776, 777, 778, 779, 760, 761, 762, 763, 764] (by decide +kernel) (by decide +kernel)) (goodIn_sub (fun _ h => List.mem_append_left _ (List.mem_append_left _ (List.mem_append_right _ h))) (by decide +kernel))) (goodIn_sub (fun _ h => List.mem_append_left _ (List.mem_append_right _ h)) (by decide +kernel))
set_option maxRecDepth 20000 in
theorem gL_law_L_fire : GoodIn wsL_law (va_wsS RL 188 yL_fire wsL_fire) := goodIn_app (goodIn_of _ (by decide +kernel)) ggL_law_L_fire
set_option maxRecDepth 20000 in
theorem ggL_law_X4_fire : GoodIn wsL_law wsX4_fire := goodIn_r _ [668, 555, 604, 605, 606, 5, 607, 90, 80, 565, 566, 567, 568, 569, 570, 571, 572, 554, 59, 288, 289, 290, 291, 56, 147, 148, 149, 150, 57, 240, 241, 242, 406, 407, 408, 409, 748, 749, 750, 751, 752, 753, 754, 755, 756, 757, 758, 759] (by decide +kernel) (by decide +kernel)
set_option maxRecDepth 20000 in
theorem gL_law_X4_fire : GoodIn wsL_law (wsV RL 190 RX4 yX4_fire wsX4_fire) := goodIn_app (goodIn_of _ (by decide +kernel)) ggL_law_X4_fire
set_option maxRecDepth 20000 in
theorem ggL_law_L_markingCount : GoodIn wsL_law wsL_markingCount := goodIn_ca (goodIn_r _ [671, 65, 672, 673, 674, 2, 675, 24, 592, 593, 594, 595, 70, 71, 676, 677, 678, 23, 679, 528, 680, 681, 682, 683, 51, 527, 684, 657, 658, 659, 46, 49, 50, 660, 170, 171, 15, 172, 33, 685, 662, 663, 664, 686, 687, 688, 689, 745, 746, 747, 769, 770, 771, 772, 773, 774, 775, 776, 777, 778, 779, 760, 761, 762, 763, 764] (by decide +kernel) (by decide +kernel)) (goodIn_sub (fun _ h => List.mem_append_left _ (List.mem_append_left _ (List.mem_append_right _ h))) (by decide +kernel))
set_option maxRecDepth 20000 in
theorem gL_law_L_markingCount : GoodIn wsL_law (va_wsS RL 191 yL_markingCount wsL_markingCount) := goodIn_app (goodIn_of _ (by decide +kernel)) ggL_law_L_markingCount
set_option maxRecDepth 20000 in
theorem ggL_law_X4_markingCount : GoodIn wsL_law wsX4_markingCount := goodIn_r _ [693, 560, 604, 605, 606, 5, 607, 90, 80, 748, 749, 750, 751, 752, 753, 754, 755, 756, 757, 758, 759] (by decide +kernel) (by decide +kernel)
set_option maxRecDepth 20000 in
theorem gL_law_X4_markingCount : GoodIn wsL_law (wsV RL 193 RX4 yX4_markingCount wsX4_markingCount) := goodIn_app (goodIn_of _ (by decide +kernel)) ggL_law_X4_markingCount
set_option maxRecDepth 20000 in
theorem ggL_law_L_markingAt : GoodIn wsL_law wsL_markingAt := goodIn_ca (goodIn_ca (goodIn_r _ [696, 65, 98, 697, 698, 699, 2, 700, 107, 108, 24, 592, 593, 594, 595, 70, 71, 676, 677, 678, 23, 679, 528, 680, 681, 682, 683, 51, 527, 684, 657, 658, 659, 46, 49, 50, 660, 170, 171, 15, 172, 33, 685, 662, 663, 664, 686, 687, 688, 689, 701, 702, 703, 704, 745, 746, 747, 769, 770, 771, 772, 773, 774, 775, 776, 777, 778, 779, 760, 761, 762, 763, 764] (by decide +kernel) (by decide +kernel)) (goodIn_sub (fun _ h => List.mem_append_left _ (List.mem_append_right _ h)) (by decide +kernel))) (goodIn_sub (fun _ h => List.mem_append_left _ (List.mem_append_left _ (List.mem_append_right _ h))) (by decide +kernel))
set_option maxRecDepth 20000 in
theorem gL_law_L_markingAt : GoodIn wsL_law (va_wsS RL 194 yL_markingAt wsL_markingAt) := goodIn_app (goodIn_of _ (by decide +kernel)) ggL_law_L_markingAt
set_option maxRecDepth 20000 in
theorem ggL_law_X4_markingAt : GoodIn wsL_law wsX4_markingAt := goodIn_r _ [708, 560, 60, 604, 605, 606, 5, 607, 90, 80, 748, 749, 750, 751, 752, 753, 754, 755, 756, 757, 758, 759] (by decide +kernel) (by decide +kernel)
set_option maxRecDepth 20000 in
theorem gL_law_X4_markingAt : GoodIn wsL_law (wsV RL 196 RX4 yX4_markingAt wsX4_markingAt) := goodIn_app (goodIn_of _ (by decide +kernel)) ggL_law_X4_markingAt
set_option maxRecDepth 20000 in
theorem ggL_law_L_isFaithful : GoodIn wsL_law wsL_isFaithful := goodIn_ca (goodIn_r _ [711, 65, 712, 713, 714, 2, 715, 24, 592, 593, 594, 595, 70, 71, 716, 717, 718, 23, 719, 46, 720, 223, 224, 15, 225, 29, 226, 227, 228, 229, 32, 230, 231, 721, 722, 723, 724, 546, 547, 548, 549, 534, 48, 725, 113, 114, 115, 684, 657, 658, 659, 49, 50, 660, 170, 171, 172, 33, 745, 746, 747, 769, 770, 771, 772, 773, 774, 775, 776, 777, 778, 779, 760, 761, 762, 763, 764] (by decide +kernel) (by decide +kernel)) (goodIn_sub (fun _ h => List.mem_append_left _ (List.mem_append_left _ (List.mem_append_right _ h))) (by decide +kernel))
set_option maxRecDepth 20000 in
theorem gL_law_L_isFaithful : GoodIn wsL_law (va_wsS RL 197 yL_isFaithful wsL_isFaithful) := goodIn_app (goodIn_of _ (by decide +kernel)) ggL_law_L_isFaithful
set_option maxRecDepth 20000 in
theorem ggL_law_X4_isFaithful : GoodIn wsL_law wsX4_isFaithful := goodIn_r _ [729, 31, 56, 60, 560, 604, 605, 606, 5, 607, 90, 80, 240, 241, 242, 147, 148, 149, 150, 57, 565, 566, 567, 568, 569, 570, 571, 572, 554, 59, 288, 289, 290, 291, 406, 407, 408, 409, 573, 574, 575, 576, 748, 749, 750, 751, 752, 753, 754, 755, 756, 757, 758, 759] (by decide +kernel) (by decide +kernel)
set_option maxRecDepth 20000 in
theorem gL_law_X4_isFaithful : GoodIn wsL_law (wsV RL 199 RX4 yX4_isFaithful wsX4_isFaithful) := goodIn_app (goodIn_of _ (by decide +kernel)) ggL_law_X4_isFaithful
set_option maxRecDepth 20000 in
theorem ggL_law_X3_digest : GoodIn wsL_law wsX3_digest := goodIn_r _ [733, 734, 16, 20, 24, 735, 736, 2, 737, 738, 112, 113, 114, 15, 115, 32, 325, 326, 327, 19, 328, 329, 330, 331, 332, 333, 334, 40, 41, 303, 273, 274, 275, 29, 304, 305, 306, 307, 308, 277, 278, 279, 33, 34, 35, 355, 356, 357, 358, 745, 746, 747, 760, 761, 762, 763, 764, 769, 770, 771, 772, 773, 774, 775, 776, 777, 778, 779, 765, 766, 767, 768] (by decide +kernel) (by decide +kernel)
set_option maxRecDepth 20000 in
theorem gL_law_X3_digest : GoodIn wsL_law (wsV RL 200 RX3 yX3_digest wsX3_digest) := goodIn_app (goodIn_of _ (by decide +kernel)) ggL_law_X3_digest
set_option maxRecDepth 20000 in
theorem ggL_law_X4_digest : GoodIn wsL_law wsX4_digest := goodIn_r _ [742, 80, 743, 56, 744, 339, 58, 90, 554, 555, 340, 341, 342, 5, 343, 89, 313, 314, 315, 316, 317, 318, 319, 320, 288, 289, 290, 291, 147, 148, 149, 150, 57, 240, 241, 242, 748, 749, 750, 751, 752, 753, 754, 755, 756, 757, 758, 759] (by decide +kernel) (by decide +kernel)
set_option maxRecDepth 20000 in
theorem gL_law_X4_digest : GoodIn wsL_law (wsV RL 204 RX4 yX4_digest wsX4_digest) := goodIn_app (goodIn_of _ (by decide +kernel)) ggL_law_X4_digest
theorem dL_law_0 : decode cL_law 0 = .ok (.new 8, 3) := by decide +kernel
theorem dL_law_3 : decode cL_law 3 = .ok (.dup, 1) := by decide +kernel
theorem dL_law_4 : decode cL_law 4 = .ok (.invokespecial 88, 3) := by decide +kernel
theorem dL_law_7 : decode cL_law 7 = .ok (.astore_n 1, 1) := by decide +kernel
theorem dL_law_8 : decode cL_law 8 = .ok (.new 89, 3) := by decide +kernel
theorem dL_law_11 : decode cL_law 11 = .ok (.dup, 1) := by decide +kernel
theorem dL_law_12 : decode cL_law 12 = .ok (.invokespecial 91, 3) := by decide +kernel
theorem dL_law_15 : decode cL_law 15 = .ok (.astore_n 2, 1) := by decide +kernel
theorem dL_law_16 : decode cL_law 16 = .ok (.iconst 1, 1) := by decide +kernel
theorem dL_law_17 : decode cL_law 17 = .ok (.newarray .long, 2) := by decide +kernel
theorem dL_law_19 : decode cL_law 19 = .ok (.astore_n 3, 1) := by decide +kernel
theorem dL_law_20 : decode cL_law 20 = .ok (.iconst 0, 1) := by decide +kernel
theorem dL_law_21 : decode cL_law 21 = .ok (.istore 4, 2) := by decide +kernel
theorem dL_law_23 : decode cL_law 23 = .ok (.iload 4, 2) := by decide +kernel
theorem dL_law_25 : decode cL_law 25 = .ok (.aload_n 0, 1) := by decide +kernel
theorem dL_law_26 : decode cL_law 26 = .ok (.arraylength, 1) := by decide +kernel
theorem dL_law_27 : decode cL_law 27 = .ok (.iconst 4, 1) := by decide +kernel
theorem dL_law_28 : decode cL_law 28 = .ok (.isub, 1) := by decide +kernel
theorem dL_law_29 : decode cL_law 29 = .ok (.if_icmp .gt 1607, 3) := by decide +kernel
theorem dL_law_32 : decode cL_law 32 = .ok (.aload_n 0, 1) := by decide +kernel
theorem dL_law_33 : decode cL_law 33 = .ok (.iload 4, 2) := by decide +kernel
theorem dL_law_35 : decode cL_law 35 = .ok (.iaload, 1) := by decide +kernel
theorem dL_law_36 : decode cL_law 36 = .ok (.bipush 31, 2) := by decide +kernel
theorem dL_law_38 : decode cL_law 38 = .ok (.iand, 1) := by decide +kernel
theorem dL_law_39 : decode cL_law 39 = .ok (.tableswitch 1591 0 30 #[137, 181, 261, 336, 404, 417, 485, 541, 554, 610, 678, 741, 754, 810, 873, 929, 997, 1065, 1078, 1091, 1132, 1145, 1158, 1214, 1270, 1326, 1370, 1426, 1470, 1526, 1577], 137) := by decide +kernel
theorem dL_law_176 : decode cL_law 176 = .ok (.aload_n 1, 1) := by decide +kernel
theorem dL_law_177 : decode cL_law 177 = .ok (.aload_n 3, 1) := by decide +kernel
theorem dL_law_178 : decode cL_law 178 = .ok (.invokestatic 92, 3) := by decide +kernel
theorem dL_law_181 : decode cL_law 181 = .ok (.istore 5, 2) := by decide +kernel
theorem dL_law_183 : decode cL_law 183 = .ok (.aload_n 2, 1) := by decide +kernel
theorem dL_law_184 : decode cL_law 184 = .ok (.invokevirtual 97, 3) := by decide +kernel
theorem dL_law_187 : decode cL_law 187 = .ok (.istore 6, 2) := by decide +kernel
theorem dL_law_189 : decode cL_law 189 = .ok (.aload_n 2, 1) := by decide +kernel
theorem dL_law_190 : decode cL_law 190 = .ok (.invokevirtual 98, 3) := by decide +kernel
theorem dL_law_193 : decode cL_law 193 = .ok (.iload 5, 2) := by decide +kernel
theorem dL_law_195 : decode cL_law 195 = .ok (.if_icmp .eq 5, 3) := by decide +kernel
theorem dL_law_198 : decode cL_law 198 = .ok (.iconst 0, 1) := by decide +kernel
theorem dL_law_199 : decode cL_law 199 = .ok (.ireturn, 1) := by decide +kernel
theorem dL_law_200 : decode cL_law 200 = .ok (.iload 5, 2) := by decide +kernel
theorem dL_law_202 : decode cL_law 202 = .ok (.ifCond .ne 15, 3) := by decide +kernel
theorem dL_law_205 : decode cL_law 205 = .ok (.aload_n 3, 1) := by decide +kernel
theorem dL_law_206 : decode cL_law 206 = .ok (.iconst 0, 1) := by decide +kernel
theorem dL_law_207 : decode cL_law 207 = .ok (.laload, 1) := by decide +kernel
theorem dL_law_208 : decode cL_law 208 = .ok (.iload 6, 2) := by decide +kernel
theorem dL_law_210 : decode cL_law 210 = .ok (.i2l, 1) := by decide +kernel
theorem dL_law_211 : decode cL_law 211 = .ok (.lcmp, 1) := by decide +kernel
theorem dL_law_212 : decode cL_law 212 = .ok (.ifCond .eq 5, 3) := by decide +kernel
theorem dL_law_215 : decode cL_law 215 = .ok (.iconst 0, 1) := by decide +kernel
theorem dL_law_216 : decode cL_law 216 = .ok (.ireturn, 1) := by decide +kernel
theorem dL_law_217 : decode cL_law 217 = .ok (.goto 1413, 3) := by decide +kernel
theorem dL_law_220 : decode cL_law 220 = .ok (.aload_n 1, 1) := by decide +kernel
theorem dL_law_221 : decode cL_law 221 = .ok (.aload_n 0, 1) := by decide +kernel
theorem dL_law_222 : decode cL_law 222 = .ok (.iload 4, 2) := by decide +kernel
theorem dL_law_224 : decode cL_law 224 = .ok (.iconst 1, 1) := by decide +kernel
theorem dL_law_225 : decode cL_law 225 = .ok (.iadd, 1) := by decide +kernel
theorem dL_law_226 : decode cL_law 226 = .ok (.iaload, 1) := by decide +kernel
theorem dL_law_227 : decode cL_law 227 = .ok (.aload_n 0, 1) := by decide +kernel
theorem dL_law_228 : decode cL_law 228 = .ok (.iload 4, 2) := by decide +kernel
theorem dL_law_230 : decode cL_law 230 = .ok (.iconst 2, 1) := by decide +kernel
theorem dL_law_231 : decode cL_law 231 = .ok (.iadd, 1) := by decide +kernel
theorem dL_law_232 : decode cL_law 232 = .ok (.iaload, 1) := by decide +kernel
theorem dL_law_233 : decode cL_law 233 = .ok (.aload_n 0, 1) := by decide +kernel
theorem dL_law_234 : decode cL_law 234 = .ok (.iload 4, 2) := by decide +kernel
theorem dL_law_236 : decode cL_law 236 = .ok (.iconst 3, 1) := by decide +kernel
theorem dL_law_237 : decode cL_law 237 = .ok (.iadd, 1) := by decide +kernel
theorem dL_law_238 : decode cL_law 238 = .ok (.iaload, 1) := by decide +kernel
theorem dL_law_239 : decode cL_law 239 = .ok (.aload_n 3, 1) := by decide +kernel
theorem dL_law_240 : decode cL_law 240 = .ok (.invokestatic 101, 3) := by decide +kernel
theorem dL_law_243 : decode cL_law 243 = .ok (.istore 5, 2) := by decide +kernel
theorem dL_law_245 : decode cL_law 245 = .ok (.aload_n 2, 1) := by decide +kernel
theorem dL_law_246 : decode cL_law 246 = .ok (.aload_n 0, 1) := by decide +kernel
theorem dL_law_247 : decode cL_law 247 = .ok (.iload 4, 2) := by decide +kernel
theorem dL_law_249 : decode cL_law 249 = .ok (.iconst 1, 1) := by decide +kernel
theorem dL_law_250 : decode cL_law 250 = .ok (.iadd, 1) := by decide +kernel
theorem dL_law_251 : decode cL_law 251 = .ok (.iaload, 1) := by decide +kernel
theorem dL_law_252 : decode cL_law 252 = .ok (.aload_n 0, 1) := by decide +kernel
theorem dL_law_253 : decode cL_law 253 = .ok (.iload 4, 2) := by decide +kernel
theorem dL_law_255 : decode cL_law 255 = .ok (.iconst 2, 1) := by decide +kernel
theorem dL_law_256 : decode cL_law 256 = .ok (.iadd, 1) := by decide +kernel
theorem dL_law_257 : decode cL_law 257 = .ok (.iaload, 1) := by decide +kernel
theorem dL_law_258 : decode cL_law 258 = .ok (.aload_n 0, 1) := by decide +kernel
theorem dL_law_259 : decode cL_law 259 = .ok (.iload 4, 2) := by decide +kernel
theorem dL_law_261 : decode cL_law 261 = .ok (.iconst 3, 1) := by decide +kernel
theorem dL_law_262 : decode cL_law 262 = .ok (.iadd, 1) := by decide +kernel
theorem dL_law_263 : decode cL_law 263 = .ok (.iaload, 1) := by decide +kernel
theorem dL_law_264 : decode cL_law 264 = .ok (.invokevirtual 104, 3) := by decide +kernel
theorem dL_law_267 : decode cL_law 267 = .ok (.istore 6, 2) := by decide +kernel
theorem dL_law_269 : decode cL_law 269 = .ok (.aload_n 2, 1) := by decide +kernel
theorem dL_law_270 : decode cL_law 270 = .ok (.invokevirtual 98, 3) := by decide +kernel
theorem dL_law_273 : decode cL_law 273 = .ok (.iload 5, 2) := by decide +kernel
theorem dL_law_275 : decode cL_law 275 = .ok (.if_icmp .eq 5, 3) := by decide +kernel
theorem dL_law_278 : decode cL_law 278 = .ok (.iconst 0, 1) := by decide +kernel
theorem dL_law_279 : decode cL_law 279 = .ok (.ireturn, 1) := by decide +kernel
theorem dL_law_280 : decode cL_law 280 = .ok (.iload 5, 2) := by decide +kernel
theorem dL_law_282 : decode cL_law 282 = .ok (.ifCond .ne 15, 3) := by decide +kernel
theorem dL_law_285 : decode cL_law 285 = .ok (.aload_n 3, 1) := by decide +kernel
theorem dL_law_286 : decode cL_law 286 = .ok (.iconst 0, 1) := by decide +kernel
theorem dL_law_287 : decode cL_law 287 = .ok (.laload, 1) := by decide +kernel
theorem dL_law_288 : decode cL_law 288 = .ok (.iload 6, 2) := by decide +kernel
theorem dL_law_290 : decode cL_law 290 = .ok (.i2l, 1) := by decide +kernel
theorem dL_law_291 : decode cL_law 291 = .ok (.lcmp, 1) := by decide +kernel
theorem dL_law_292 : decode cL_law 292 = .ok (.ifCond .eq 5, 3) := by decide +kernel
theorem dL_law_295 : decode cL_law 295 = .ok (.iconst 0, 1) := by decide +kernel
theorem dL_law_296 : decode cL_law 296 = .ok (.ireturn, 1) := by decide +kernel
theorem dL_law_297 : decode cL_law 297 = .ok (.goto 1333, 3) := by decide +kernel
theorem dL_law_300 : decode cL_law 300 = .ok (.aload_n 1, 1) := by decide +kernel
theorem dL_law_301 : decode cL_law 301 = .ok (.aload_n 0, 1) := by decide +kernel
theorem dL_law_302 : decode cL_law 302 = .ok (.iload 4, 2) := by decide +kernel
theorem dL_law_304 : decode cL_law 304 = .ok (.iconst 1, 1) := by decide +kernel
theorem dL_law_305 : decode cL_law 305 = .ok (.iadd, 1) := by decide +kernel
theorem dL_law_306 : decode cL_law 306 = .ok (.iaload, 1) := by decide +kernel
theorem dL_law_307 : decode cL_law 307 = .ok (.aload_n 0, 1) := by decide +kernel
theorem dL_law_308 : decode cL_law 308 = .ok (.iload 4, 2) := by decide +kernel
theorem dL_law_310 : decode cL_law 310 = .ok (.iconst 2, 1) := by decide +kernel
theorem dL_law_311 : decode cL_law 311 = .ok (.iadd, 1) := by decide +kernel
theorem dL_law_312 : decode cL_law 312 = .ok (.iaload, 1) := by decide +kernel
theorem dL_law_313 : decode cL_law 313 = .ok (.aload_n 3, 1) := by decide +kernel
theorem dL_law_314 : decode cL_law 314 = .ok (.invokestatic 105, 3) := by decide +kernel
theorem dL_law_317 : decode cL_law 317 = .ok (.istore 5, 2) := by decide +kernel
theorem dL_law_319 : decode cL_law 319 = .ok (.aload_n 2, 1) := by decide +kernel
theorem dL_law_320 : decode cL_law 320 = .ok (.aload_n 0, 1) := by decide +kernel
theorem dL_law_321 : decode cL_law 321 = .ok (.iload 4, 2) := by decide +kernel
theorem dL_law_323 : decode cL_law 323 = .ok (.iconst 1, 1) := by decide +kernel
theorem dL_law_324 : decode cL_law 324 = .ok (.iadd, 1) := by decide +kernel
theorem dL_law_325 : decode cL_law 325 = .ok (.iaload, 1) := by decide +kernel
theorem dL_law_326 : decode cL_law 326 = .ok (.aload_n 0, 1) := by decide +kernel
theorem dL_law_327 : decode cL_law 327 = .ok (.iload 4, 2) := by decide +kernel
theorem dL_law_329 : decode cL_law 329 = .ok (.iconst 2, 1) := by decide +kernel
theorem dL_law_330 : decode cL_law 330 = .ok (.iadd, 1) := by decide +kernel
theorem dL_law_331 : decode cL_law 331 = .ok (.iaload, 1) := by decide +kernel
theorem dL_law_332 : decode cL_law 332 = .ok (.invokevirtual 108, 3) := by decide +kernel
theorem dL_law_335 : decode cL_law 335 = .ok (.istore 6, 2) := by decide +kernel
theorem dL_law_337 : decode cL_law 337 = .ok (.aload_n 2, 1) := by decide +kernel
theorem dL_law_338 : decode cL_law 338 = .ok (.invokevirtual 98, 3) := by decide +kernel
theorem dL_law_341 : decode cL_law 341 = .ok (.iload 5, 2) := by decide +kernel
theorem dL_law_343 : decode cL_law 343 = .ok (.if_icmp .eq 5, 3) := by decide +kernel
theorem dL_law_346 : decode cL_law 346 = .ok (.iconst 0, 1) := by decide +kernel
theorem dL_law_347 : decode cL_law 347 = .ok (.ireturn, 1) := by decide +kernel
theorem dL_law_348 : decode cL_law 348 = .ok (.iload 5, 2) := by decide +kernel
theorem dL_law_350 : decode cL_law 350 = .ok (.ifCond .ne 22, 3) := by decide +kernel
theorem dL_law_353 : decode cL_law 353 = .ok (.aload_n 3, 1) := by decide +kernel
theorem dL_law_354 : decode cL_law 354 = .ok (.iconst 0, 1) := by decide +kernel
theorem dL_law_355 : decode cL_law 355 = .ok (.laload, 1) := by decide +kernel
theorem dL_law_356 : decode cL_law 356 = .ok (.iload 6, 2) := by decide +kernel
theorem dL_law_358 : decode cL_law 358 = .ok (.ifCond .eq 7, 3) := by decide +kernel
theorem dL_law_361 : decode cL_law 361 = .ok (.lconst 1, 1) := by decide +kernel
theorem dL_law_362 : decode cL_law 362 = .ok (.goto 4, 3) := by decide +kernel
theorem dL_law_365 : decode cL_law 365 = .ok (.lconst 0, 1) := by decide +kernel
theorem dL_law_366 : decode cL_law 366 = .ok (.lcmp, 1) := by decide +kernel
theorem dL_law_367 : decode cL_law 367 = .ok (.ifCond .eq 5, 3) := by decide +kernel
theorem dL_law_370 : decode cL_law 370 = .ok (.iconst 0, 1) := by decide +kernel
theorem dL_law_371 : decode cL_law 371 = .ok (.ireturn, 1) := by decide +kernel
theorem dL_law_372 : decode cL_law 372 = .ok (.goto 1258, 3) := by decide +kernel
theorem dL_law_375 : decode cL_law 375 = .ok (.aload_n 1, 1) := by decide +kernel
theorem dL_law_376 : decode cL_law 376 = .ok (.aload_n 0, 1) := by decide +kernel
theorem dL_law_377 : decode cL_law 377 = .ok (.iload 4, 2) := by decide +kernel
theorem dL_law_379 : decode cL_law 379 = .ok (.iconst 1, 1) := by decide +kernel
theorem dL_law_380 : decode cL_law 380 = .ok (.iadd, 1) := by decide +kernel
theorem dL_law_381 : decode cL_law 381 = .ok (.iaload, 1) := by decide +kernel
theorem dL_law_382 : decode cL_law 382 = .ok (.aload_n 0, 1) := by decide +kernel
theorem dL_law_383 : decode cL_law 383 = .ok (.iload 4, 2) := by decide +kernel
theorem dL_law_385 : decode cL_law 385 = .ok (.iconst 2, 1) := by decide +kernel
theorem dL_law_386 : decode cL_law 386 = .ok (.iadd, 1) := by decide +kernel
theorem dL_law_387 : decode cL_law 387 = .ok (.iaload, 1) := by decide +kernel
theorem dL_law_388 : decode cL_law 388 = .ok (.aload_n 3, 1) := by decide +kernel
theorem dL_law_389 : decode cL_law 389 = .ok (.invokestatic 109, 3) := by decide +kernel
theorem dL_law_392 : decode cL_law 392 = .ok (.istore 5, 2) := by decide +kernel
theorem dL_law_394 : decode cL_law 394 = .ok (.aload_n 2, 1) := by decide +kernel
theorem dL_law_395 : decode cL_law 395 = .ok (.aload_n 0, 1) := by decide +kernel
theorem dL_law_396 : decode cL_law 396 = .ok (.iload 4, 2) := by decide +kernel
theorem dL_law_398 : decode cL_law 398 = .ok (.iconst 1, 1) := by decide +kernel
theorem dL_law_399 : decode cL_law 399 = .ok (.iadd, 1) := by decide +kernel
theorem dL_law_400 : decode cL_law 400 = .ok (.iaload, 1) := by decide +kernel
theorem dL_law_401 : decode cL_law 401 = .ok (.aload_n 0, 1) := by decide +kernel
theorem dL_law_402 : decode cL_law 402 = .ok (.iload 4, 2) := by decide +kernel
theorem dL_law_404 : decode cL_law 404 = .ok (.iconst 2, 1) := by decide +kernel
theorem dL_law_405 : decode cL_law 405 = .ok (.iadd, 1) := by decide +kernel
theorem dL_law_406 : decode cL_law 406 = .ok (.iaload, 1) := by decide +kernel
theorem dL_law_407 : decode cL_law 407 = .ok (.invokevirtual 111, 3) := by decide +kernel
theorem dL_law_410 : decode cL_law 410 = .ok (.istore 6, 2) := by decide +kernel
theorem dL_law_412 : decode cL_law 412 = .ok (.aload_n 2, 1) := by decide +kernel
theorem dL_law_413 : decode cL_law 413 = .ok (.invokevirtual 98, 3) := by decide +kernel
theorem dL_law_416 : decode cL_law 416 = .ok (.iload 5, 2) := by decide +kernel
theorem dL_law_418 : decode cL_law 418 = .ok (.if_icmp .eq 5, 3) := by decide +kernel
theorem dL_law_421 : decode cL_law 421 = .ok (.iconst 0, 1) := by decide +kernel
theorem dL_law_422 : decode cL_law 422 = .ok (.ireturn, 1) := by decide +kernel
theorem dL_law_423 : decode cL_law 423 = .ok (.iload 5, 2) := by decide +kernel
theorem dL_law_425 : decode cL_law 425 = .ok (.ifCond .ne 15, 3) := by decide +kernel
theorem dL_law_428 : decode cL_law 428 = .ok (.aload_n 3, 1) := by decide +kernel
theorem dL_law_429 : decode cL_law 429 = .ok (.iconst 0, 1) := by decide +kernel
theorem dL_law_430 : decode cL_law 430 = .ok (.laload, 1) := by decide +kernel
theorem dL_law_431 : decode cL_law 431 = .ok (.iload 6, 2) := by decide +kernel
theorem dL_law_433 : decode cL_law 433 = .ok (.i2l, 1) := by decide +kernel
theorem dL_law_434 : decode cL_law 434 = .ok (.lcmp, 1) := by decide +kernel
theorem dL_law_435 : decode cL_law 435 = .ok (.ifCond .eq 5, 3) := by decide +kernel
theorem dL_law_438 : decode cL_law 438 = .ok (.iconst 0, 1) := by decide +kernel
theorem dL_law_439 : decode cL_law 439 = .ok (.ireturn, 1) := by decide +kernel
theorem dL_law_440 : decode cL_law 440 = .ok (.goto 1190, 3) := by decide +kernel
theorem dL_law_443 : decode cL_law 443 = .ok (.aload_n 1, 1) := by decide +kernel
theorem dL_law_444 : decode cL_law 444 = .ok (.invokevirtual 112, 3) := by decide +kernel
theorem dL_law_447 : decode cL_law 447 = .ok (.aload_n 2, 1) := by decide +kernel
theorem dL_law_448 : decode cL_law 448 = .ok (.invokevirtual 115, 3) := by decide +kernel
theorem dL_law_451 : decode cL_law 451 = .ok (.if_icmp .eq 1179, 3) := by decide +kernel
theorem dL_law_454 : decode cL_law 454 = .ok (.iconst 0, 1) := by decide +kernel
theorem dL_law_455 : decode cL_law 455 = .ok (.ireturn, 1) := by decide +kernel
theorem dL_law_456 : decode cL_law 456 = .ok (.aload_n 1, 1) := by decide +kernel
theorem dL_law_457 : decode cL_law 457 = .ok (.aload_n 0, 1) := by decide +kernel
theorem dL_law_458 : decode cL_law 458 = .ok (.iload 4, 2) := by decide +kernel
theorem dL_law_460 : decode cL_law 460 = .ok (.iconst 1, 1) := by decide +kernel
theorem dL_law_461 : decode cL_law 461 = .ok (.iadd, 1) := by decide +kernel
theorem dL_law_462 : decode cL_law 462 = .ok (.iaload, 1) := by decide +kernel
theorem dL_law_463 : decode cL_law 463 = .ok (.aload_n 0, 1) := by decide +kernel
theorem dL_law_464 : decode cL_law 464 = .ok (.iload 4, 2) := by decide +kernel
theorem dL_law_466 : decode cL_law 466 = .ok (.iconst 2, 1) := by decide +kernel
theorem dL_law_467 : decode cL_law 467 = .ok (.iadd, 1) := by decide +kernel
theorem dL_law_468 : decode cL_law 468 = .ok (.iaload, 1) := by decide +kernel
theorem dL_law_469 : decode cL_law 469 = .ok (.aload_n 3, 1) := by decide +kernel
theorem dL_law_470 : decode cL_law 470 = .ok (.invokestatic 116, 3) := by decide +kernel
theorem dL_law_473 : decode cL_law 473 = .ok (.istore 5, 2) := by decide +kernel
theorem dL_law_475 : decode cL_law 475 = .ok (.aload_n 2, 1) := by decide +kernel
theorem dL_law_476 : decode cL_law 476 = .ok (.aload_n 0, 1) := by decide +kernel
theorem dL_law_477 : decode cL_law 477 = .ok (.iload 4, 2) := by decide +kernel
theorem dL_law_479 : decode cL_law 479 = .ok (.iconst 1, 1) := by decide +kernel
theorem dL_law_480 : decode cL_law 480 = .ok (.iadd, 1) := by decide +kernel
theorem dL_law_481 : decode cL_law 481 = .ok (.iaload, 1) := by decide +kernel
theorem dL_law_482 : decode cL_law 482 = .ok (.aload_n 0, 1) := by decide +kernel
theorem dL_law_483 : decode cL_law 483 = .ok (.iload 4, 2) := by decide +kernel
theorem dL_law_485 : decode cL_law 485 = .ok (.iconst 2, 1) := by decide +kernel
theorem dL_law_486 : decode cL_law 486 = .ok (.iadd, 1) := by decide +kernel
theorem dL_law_487 : decode cL_law 487 = .ok (.iaload, 1) := by decide +kernel
theorem dL_law_488 : decode cL_law 488 = .ok (.invokevirtual 118, 3) := by decide +kernel
theorem dL_law_491 : decode cL_law 491 = .ok (.istore 6, 2) := by decide +kernel
theorem dL_law_493 : decode cL_law 493 = .ok (.aload_n 2, 1) := by decide +kernel
theorem dL_law_494 : decode cL_law 494 = .ok (.invokevirtual 98, 3) := by decide +kernel
theorem dL_law_497 : decode cL_law 497 = .ok (.iload 5, 2) := by decide +kernel
theorem dL_law_499 : decode cL_law 499 = .ok (.if_icmp .eq 5, 3) := by decide +kernel
theorem dL_law_502 : decode cL_law 502 = .ok (.iconst 0, 1) := by decide +kernel
theorem dL_law_503 : decode cL_law 503 = .ok (.ireturn, 1) := by decide +kernel
theorem dL_law_504 : decode cL_law 504 = .ok (.iload 5, 2) := by decide +kernel
theorem dL_law_506 : decode cL_law 506 = .ok (.ifCond .ne 15, 3) := by decide +kernel
theorem dL_law_509 : decode cL_law 509 = .ok (.aload_n 3, 1) := by decide +kernel
theorem dL_law_510 : decode cL_law 510 = .ok (.iconst 0, 1) := by decide +kernel
theorem dL_law_511 : decode cL_law 511 = .ok (.laload, 1) := by decide +kernel
theorem dL_law_512 : decode cL_law 512 = .ok (.iload 6, 2) := by decide +kernel
theorem dL_law_514 : decode cL_law 514 = .ok (.i2l, 1) := by decide +kernel
theorem dL_law_515 : decode cL_law 515 = .ok (.lcmp, 1) := by decide +kernel
theorem dL_law_516 : decode cL_law 516 = .ok (.ifCond .eq 5, 3) := by decide +kernel
theorem dL_law_519 : decode cL_law 519 = .ok (.iconst 0, 1) := by decide +kernel
theorem dL_law_520 : decode cL_law 520 = .ok (.ireturn, 1) := by decide +kernel
theorem dL_law_521 : decode cL_law 521 = .ok (.goto 1109, 3) := by decide +kernel
theorem dL_law_524 : decode cL_law 524 = .ok (.aload_n 1, 1) := by decide +kernel
theorem dL_law_525 : decode cL_law 525 = .ok (.aload_n 0, 1) := by decide +kernel
theorem dL_law_526 : decode cL_law 526 = .ok (.iload 4, 2) := by decide +kernel
theorem dL_law_528 : decode cL_law 528 = .ok (.iconst 1, 1) := by decide +kernel
theorem dL_law_529 : decode cL_law 529 = .ok (.iadd, 1) := by decide +kernel
theorem dL_law_530 : decode cL_law 530 = .ok (.iaload, 1) := by decide +kernel
theorem dL_law_531 : decode cL_law 531 = .ok (.aload_n 3, 1) := by decide +kernel
theorem dL_law_532 : decode cL_law 532 = .ok (.invokestatic 119, 3) := by decide +kernel
theorem dL_law_535 : decode cL_law 535 = .ok (.istore 5, 2) := by decide +kernel
theorem dL_law_537 : decode cL_law 537 = .ok (.aload_n 2, 1) := by decide +kernel
theorem dL_law_538 : decode cL_law 538 = .ok (.aload_n 0, 1) := by decide +kernel
theorem dL_law_539 : decode cL_law 539 = .ok (.iload 4, 2) := by decide +kernel
theorem dL_law_541 : decode cL_law 541 = .ok (.iconst 1, 1) := by decide +kernel
theorem dL_law_542 : decode cL_law 542 = .ok (.iadd, 1) := by decide +kernel
theorem dL_law_543 : decode cL_law 543 = .ok (.iaload, 1) := by decide +kernel
theorem dL_law_544 : decode cL_law 544 = .ok (.invokevirtual 122, 3) := by decide +kernel
theorem dL_law_547 : decode cL_law 547 = .ok (.istore 6, 2) := by decide +kernel
theorem dL_law_549 : decode cL_law 549 = .ok (.aload_n 2, 1) := by decide +kernel
theorem dL_law_550 : decode cL_law 550 = .ok (.invokevirtual 98, 3) := by decide +kernel
theorem dL_law_553 : decode cL_law 553 = .ok (.iload 5, 2) := by decide +kernel
theorem dL_law_555 : decode cL_law 555 = .ok (.if_icmp .eq 5, 3) := by decide +kernel
theorem dL_law_558 : decode cL_law 558 = .ok (.iconst 0, 1) := by decide +kernel
theorem dL_law_559 : decode cL_law 559 = .ok (.ireturn, 1) := by decide +kernel
theorem dL_law_560 : decode cL_law 560 = .ok (.iload 5, 2) := by decide +kernel
theorem dL_law_562 : decode cL_law 562 = .ok (.ifCond .ne 15, 3) := by decide +kernel
theorem dL_law_565 : decode cL_law 565 = .ok (.aload_n 3, 1) := by decide +kernel
theorem dL_law_566 : decode cL_law 566 = .ok (.iconst 0, 1) := by decide +kernel
theorem dL_law_567 : decode cL_law 567 = .ok (.laload, 1) := by decide +kernel
theorem dL_law_568 : decode cL_law 568 = .ok (.iload 6, 2) := by decide +kernel
theorem dL_law_570 : decode cL_law 570 = .ok (.i2l, 1) := by decide +kernel
theorem dL_law_571 : decode cL_law 571 = .ok (.lcmp, 1) := by decide +kernel
theorem dL_law_572 : decode cL_law 572 = .ok (.ifCond .eq 5, 3) := by decide +kernel
theorem dL_law_575 : decode cL_law 575 = .ok (.iconst 0, 1) := by decide +kernel
theorem dL_law_576 : decode cL_law 576 = .ok (.ireturn, 1) := by decide +kernel
theorem dL_law_577 : decode cL_law 577 = .ok (.goto 1053, 3) := by decide +kernel
theorem dL_law_580 : decode cL_law 580 = .ok (.aload_n 1, 1) := by decide +kernel
theorem dL_law_581 : decode cL_law 581 = .ok (.invokevirtual 123, 3) := by decide +kernel
theorem dL_law_584 : decode cL_law 584 = .ok (.aload_n 2, 1) := by decide +kernel
theorem dL_law_585 : decode cL_law 585 = .ok (.invokevirtual 126, 3) := by decide +kernel
theorem dL_law_588 : decode cL_law 588 = .ok (.if_icmp .eq 1042, 3) := by decide +kernel
theorem dL_law_591 : decode cL_law 591 = .ok (.iconst 0, 1) := by decide +kernel
theorem dL_law_592 : decode cL_law 592 = .ok (.ireturn, 1) := by decide +kernel
theorem dL_law_593 : decode cL_law 593 = .ok (.aload_n 1, 1) := by decide +kernel
theorem dL_law_594 : decode cL_law 594 = .ok (.aload_n 0, 1) := by decide +kernel
theorem dL_law_595 : decode cL_law 595 = .ok (.iload 4, 2) := by decide +kernel
theorem dL_law_597 : decode cL_law 597 = .ok (.iconst 1, 1) := by decide +kernel
theorem dL_law_598 : decode cL_law 598 = .ok (.iadd, 1) := by decide +kernel
theorem dL_law_599 : decode cL_law 599 = .ok (.iaload, 1) := by decide +kernel
theorem dL_law_600 : decode cL_law 600 = .ok (.aload_n 3, 1) := by decide +kernel
theorem dL_law_601 : decode cL_law 601 = .ok (.invokestatic 127, 3) := by decide +kernel
theorem dL_law_604 : decode cL_law 604 = .ok (.istore 5, 2) := by decide +kernel
