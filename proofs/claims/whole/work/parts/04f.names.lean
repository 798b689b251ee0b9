set_option maxRecDepth 20000 in
theorem ggX4_fidelity_X4_lumpCount : GoodIn wsX4_fidelity wsX4_lumpCount := goodIn_r _ [20, 2, 21, 22, 23, 6, 24, 25, 26, 27, 28, 29, 30, 31, 32, 33, 34, 35, 36, 37, 38, 39, 40, 41, 42, 43, 8, 9, 10, 11, 12, 44, 45, 46, 55, 56, 57, 58, 59, 60, 61, 62, 63, 64, 65, 66] (by decide +kernel) (by decide +kernel)
set_option maxRecDepth 20000 in
theorem gX4_fidelity_X4_lumpCount : GoodIn wsX4_fidelity (wsV RX4 92 RX4 yX4_lumpCount wsX4_lumpCount) := goodIn_app (goodIn_of _ (by decide +kernel)) ggX4_fidelity_X4_lumpCount
set_option maxRecDepth 20000 in
theorem ggX4_fidelity_X4_leakCount : GoodIn wsX4_fidelity wsX4_leakCount := goodIn_r _ [50, 2, 3, 4, 5, 6, 7, 8, 9, 10, 11, 12, 13, 14, 15, 16, 51, 52, 53, 54, 25, 26, 27, 28, 29, 30, 31, 32, 33, 34, 35, 36, 37, 38, 39, 40, 41, 42, 43, 44, 45, 46, 55, 56, 57, 58, 59, 60, 61, 62, 63, 64, 65, 66] (by decide +kernel) (by decide +kernel)
set_option maxRecDepth 20000 in
theorem gX4_fidelity_X4_leakCount : GoodIn wsX4_fidelity (wsV RX4 99 RX4 yX4_leakCount wsX4_leakCount) := goodIn_app (goodIn_of _ (by decide +kernel)) ggX4_fidelity_X4_leakCount
theorem dX4_fidelity_0 : decode cX4_fidelity 0 = .ok (.aload_n 0, 1) := by decide +kernel
theorem dX4_fidelity_1 : decode cX4_fidelity 1 = .ok (.iconst 0, 1) := by decide +kernel
theorem dX4_fidelity_2 : decode cX4_fidelity 2 = .ok (.putfield 26, 3) := by decide +kernel
theorem dX4_fidelity_5 : decode cX4_fidelity 5 = .ok (.aload_n 0, 1) := by decide +kernel
theorem dX4_fidelity_6 : decode cX4_fidelity 6 = .ok (.getfield 9, 3) := by decide +kernel
theorem dX4_fidelity_9 : decode cX4_fidelity 9 = .ok (.aload_n 0, 1) := by decide +kernel
theorem dX4_fidelity_10 : decode cX4_fidelity 10 = .ok (.getfield 9, 3) := by decide +kernel
theorem dX4_fidelity_13 : decode cX4_fidelity 13 = .ok (.iconst 1, 1) := by decide +kernel
theorem dX4_fidelity_14 : decode cX4_fidelity 14 = .ok (.isub, 1) := by decide +kernel
theorem dX4_fidelity_15 : decode cX4_fidelity 15 = .ok (.imul, 1) := by decide +kernel
theorem dX4_fidelity_16 : decode cX4_fidelity 16 = .ok (.iconst 2, 1) := by decide +kernel
theorem dX4_fidelity_17 : decode cX4_fidelity 17 = .ok (.idiv, 1) := by decide +kernel
theorem dX4_fidelity_18 : decode cX4_fidelity 18 = .ok (.istore_n 1, 1) := by decide +kernel
theorem dX4_fidelity_19 : decode cX4_fidelity 19 = .ok (.iconst 0, 1) := by decide +kernel
theorem dX4_fidelity_20 : decode cX4_fidelity 20 = .ok (.istore_n 2, 1) := by decide +kernel
theorem dX4_fidelity_21 : decode cX4_fidelity 21 = .ok (.iload_n 2, 1) := by decide +kernel
theorem dX4_fidelity_22 : decode cX4_fidelity 22 = .ok (.aload_n 0, 1) := by decide +kernel
theorem dX4_fidelity_23 : decode cX4_fidelity 23 = .ok (.getfield 9, 3) := by decide +kernel
theorem dX4_fidelity_26 : decode cX4_fidelity 26 = .ok (.if_icmp .ge 40, 3) := by decide +kernel
theorem dX4_fidelity_29 : decode cX4_fidelity 29 = .ok (.iconst 0, 1) := by decide +kernel
theorem dX4_fidelity_30 : decode cX4_fidelity 30 = .ok (.istore_n 3, 1) := by decide +kernel
theorem dX4_fidelity_31 : decode cX4_fidelity 31 = .ok (.iload_n 3, 1) := by decide +kernel
theorem dX4_fidelity_32 : decode cX4_fidelity 32 = .ok (.bipush 6, 2) := by decide +kernel
theorem dX4_fidelity_34 : decode cX4_fidelity 34 = .ok (.if_icmp .ge 26, 3) := by decide +kernel
theorem dX4_fidelity_37 : decode cX4_fidelity 37 = .ok (.iload_n 1, 1) := by decide +kernel
theorem dX4_fidelity_38 : decode cX4_fidelity 38 = .ok (.aload_n 0, 1) := by decide +kernel
theorem dX4_fidelity_39 : decode cX4_fidelity 39 = .ok (.iload_n 2, 1) := by decide +kernel
theorem dX4_fidelity_40 : decode cX4_fidelity 40 = .ok (.iload_n 3, 1) := by decide +kernel
theorem dX4_fidelity_41 : decode cX4_fidelity 41 = .ok (.invokevirtual 96, 3) := by decide +kernel
theorem dX4_fidelity_44 : decode cX4_fidelity 44 = .ok (.ifCond .eq 7, 3) := by decide +kernel
theorem dX4_fidelity_47 : decode cX4_fidelity 47 = .ok (.iconst 1, 1) := by decide +kernel
theorem dX4_fidelity_48 : decode cX4_fidelity 48 = .ok (.goto 4, 3) := by decide +kernel
theorem dX4_fidelity_51 : decode cX4_fidelity 51 = .ok (.iconst 0, 1) := by decide +kernel
theorem dX4_fidelity_52 : decode cX4_fidelity 52 = .ok (.iadd, 1) := by decide +kernel
theorem dX4_fidelity_53 : decode cX4_fidelity 53 = .ok (.istore_n 1, 1) := by decide +kernel
theorem dX4_fidelity_54 : decode cX4_fidelity 54 = .ok (.iinc 3 1, 3) := by decide +kernel
theorem dX4_fidelity_57 : decode cX4_fidelity 57 = .ok (.goto (-26), 3) := by decide +kernel
theorem dX4_fidelity_60 : decode cX4_fidelity 60 = .ok (.iinc 2 1, 3) := by decide +kernel
theorem dX4_fidelity_63 : decode cX4_fidelity 63 = .ok (.goto (-42), 3) := by decide +kernel
theorem dX4_fidelity_66 : decode cX4_fidelity 66 = .ok (.iload_n 1, 1) := by decide +kernel
theorem dX4_fidelity_67 : decode cX4_fidelity 67 = .ok (.ifCond .ne 7, 3) := by decide +kernel
theorem dX4_fidelity_70 : decode cX4_fidelity 70 = .ok (.dconst 1, 1) := by decide +kernel
theorem dX4_fidelity_71 : decode cX4_fidelity 71 = .ok (.goto 18, 3) := by decide +kernel
theorem dX4_fidelity_74 : decode cX4_fidelity 74 = .ok (.dconst 1, 1) := by decide +kernel
theorem dX4_fidelity_75 : decode cX4_fidelity 75 = .ok (.aload_n 0, 1) := by decide +kernel
theorem dX4_fidelity_76 : decode cX4_fidelity 76 = .ok (.invokevirtual 92, 3) := by decide +kernel
theorem dX4_fidelity_79 : decode cX4_fidelity 79 = .ok (.aload_n 0, 1) := by decide +kernel
theorem dX4_fidelity_80 : decode cX4_fidelity 80 = .ok (.invokevirtual 99, 3) := by decide +kernel
theorem dX4_fidelity_83 : decode cX4_fidelity 83 = .ok (.iadd, 1) := by decide +kernel
theorem dX4_fidelity_84 : decode cX4_fidelity 84 = .ok (.i2d, 1) := by decide +kernel
theorem dX4_fidelity_85 : decode cX4_fidelity 85 = .ok (.iload_n 1, 1) := by decide +kernel
theorem dX4_fidelity_86 : decode cX4_fidelity 86 = .ok (.i2d, 1) := by decide +kernel
theorem dX4_fidelity_87 : decode cX4_fidelity 87 = .ok (.ddiv, 1) := by decide +kernel
theorem dX4_fidelity_88 : decode cX4_fidelity 88 = .ok (.dsub, 1) := by decide +kernel
theorem dX4_fidelity_89 : decode cX4_fidelity 89 = .ok (.dreturn, 1) := by decide +kernel
set_option maxRecDepth 20000 in
theorem ggX4_firstMarking_X4_has : GoodIn wsX4_firstMarking wsX4_has := goodIn_r _ [6] (by decide +kernel) (by decide +kernel)
set_option maxRecDepth 20000 in
theorem gX4_firstMarking_X4_has : GoodIn wsX4_firstMarking (va_wsS RX4 54 yX4_has wsX4_has) := goodIn_app (goodIn_of _ (by decide +kernel)) ggX4_firstMarking_X4_has
theorem dX4_firstMarking_0 : decode cX4_firstMarking 0 = .ok (.iconst 0, 1) := by decide +kernel
theorem dX4_firstMarking_1 : decode cX4_firstMarking 1 = .ok (.istore_n 1, 1) := by decide +kernel
theorem dX4_firstMarking_2 : decode cX4_firstMarking 2 = .ok (.iconst 0, 1) := by decide +kernel
theorem dX4_firstMarking_3 : decode cX4_firstMarking 3 = .ok (.istore_n 2, 1) := by decide +kernel
theorem dX4_firstMarking_4 : decode cX4_firstMarking 4 = .ok (.iload_n 2, 1) := by decide +kernel
theorem dX4_firstMarking_5 : decode cX4_firstMarking 5 = .ok (.aload_n 0, 1) := by decide +kernel
theorem dX4_firstMarking_6 : decode cX4_firstMarking 6 = .ok (.getfield 102, 3) := by decide +kernel
theorem dX4_firstMarking_9 : decode cX4_firstMarking 9 = .ok (.if_icmp .ge 28, 3) := by decide +kernel
theorem dX4_firstMarking_12 : decode cX4_firstMarking 12 = .ok (.aload_n 0, 1) := by decide +kernel
theorem dX4_firstMarking_13 : decode cX4_firstMarking 13 = .ok (.getfield 20, 3) := by decide +kernel
theorem dX4_firstMarking_16 : decode cX4_firstMarking 16 = .ok (.iload_n 2, 1) := by decide +kernel
theorem dX4_firstMarking_17 : decode cX4_firstMarking 17 = .ok (.iaload, 1) := by decide +kernel
theorem dX4_firstMarking_18 : decode cX4_firstMarking 18 = .ok (.iconst 0, 1) := by decide +kernel
theorem dX4_firstMarking_19 : decode cX4_firstMarking 19 = .ok (.invokestatic 54, 3) := by decide +kernel
theorem dX4_firstMarking_22 : decode cX4_firstMarking 22 = .ok (.ifCond .eq 9, 3) := by decide +kernel
theorem dX4_firstMarking_25 : decode cX4_firstMarking 25 = .ok (.iload_n 1, 1) := by decide +kernel
theorem dX4_firstMarking_26 : decode cX4_firstMarking 26 = .ok (.iconst 1, 1) := by decide +kernel
theorem dX4_firstMarking_27 : decode cX4_firstMarking 27 = .ok (.iload_n 2, 1) := by decide +kernel
theorem dX4_firstMarking_28 : decode cX4_firstMarking 28 = .ok (.ishl, 1) := by decide +kernel
theorem dX4_firstMarking_29 : decode cX4_firstMarking 29 = .ok (.ior, 1) := by decide +kernel
theorem dX4_firstMarking_30 : decode cX4_firstMarking 30 = .ok (.istore_n 1, 1) := by decide +kernel
theorem dX4_firstMarking_31 : decode cX4_firstMarking 31 = .ok (.iinc 2 1, 3) := by decide +kernel
theorem dX4_firstMarking_34 : decode cX4_firstMarking 34 = .ok (.goto (-30), 3) := by decide +kernel
theorem dX4_firstMarking_37 : decode cX4_firstMarking 37 = .ok (.iload_n 1, 1) := by decide +kernel
theorem dX4_firstMarking_38 : decode cX4_firstMarking 38 = .ok (.ireturn, 1) := by decide +kernel
set_option maxRecDepth 20000 in
theorem ggX4_makeNet_X4_know : GoodIn wsX4_makeNet wsX4_know := goodIn_r _ [12, 13, 4, 14, 6, 15, 16, 17, 11, 18, 19, 20, 21, 22, 23, 24, 25, 26, 27, 28, 29, 30, 31, 32, 33, 34, 65, 66, 67, 68, 69, 70, 71, 72, 73, 74, 75, 76] (by decide +kernel) (by decide +kernel)
set_option maxRecDepth 20000 in
theorem gX4_makeNet_X4_know : GoodIn wsX4_makeNet (wsV RX4 76 RX4 yX4_know wsX4_know) := goodIn_app (goodIn_of _ (by decide +kernel)) ggX4_makeNet_X4_know
set_option maxRecDepth 20000 in
theorem ggX4_makeNet_X4_isSmallest : GoodIn wsX4_makeNet wsX4_isSmallest := goodIn_r _ [38, 6, 65, 66, 67, 68, 69, 70, 71, 72, 73, 74, 75, 76] (by decide +kernel) (by decide +kernel)
set_option maxRecDepth 20000 in
theorem gX4_makeNet_X4_isSmallest : GoodIn wsX4_makeNet (wsV RX4 79 RX4 yX4_isSmallest wsX4_isSmallest) := goodIn_app (goodIn_of _ (by decide +kernel)) ggX4_makeNet_X4_isSmallest
set_option maxRecDepth 20000 in
theorem ggX4_makeNet_X4_findMarkings : GoodIn wsX4_makeNet wsX4_findMarkings := goodIn_r _ [42, 43, 44, 45, 46, 47, 11, 48, 3, 5, 32, 33, 34, 49, 50, 51, 52, 53, 54, 55, 56, 23, 24, 25, 26, 14, 27, 28, 29, 30, 31, 57, 58, 59, 60, 61, 62, 63, 64, 65, 66, 67, 68, 69, 70, 71, 72, 73, 74, 75, 76] (by decide +kernel) (by decide +kernel)
set_option maxRecDepth 20000 in
theorem gX4_makeNet_X4_findMarkings : GoodIn wsX4_makeNet (wsV RX4 105 RX4 yX4_findMarkings wsX4_findMarkings) := goodIn_app (goodIn_of _ (by decide +kernel)) ggX4_makeNet_X4_findMarkings
set_option maxRecDepth 20000 in
theorem ggX4_makeNet_X4_firstMarking : GoodIn wsX4_makeNet wsX4_firstMarking := goodIn_r _ [48, 3, 5, 32, 33, 11, 34, 65, 66, 67, 68, 69, 70, 71, 72, 73, 74, 75, 76] (by decide +kernel) (by decide +kernel)
set_option maxRecDepth 20000 in
theorem gX4_makeNet_X4_firstMarking : GoodIn wsX4_makeNet (wsV RX4 108 RX4 yX4_firstMarking wsX4_firstMarking) := goodIn_app (goodIn_of _ (by decide +kernel)) ggX4_makeNet_X4_firstMarking
theorem dX4_makeNet_0 : decode cX4_makeNet 0 = .ok (.aload_n 0, 1) := by decide +kernel
theorem dX4_makeNet_1 : decode cX4_makeNet 1 = .ok (.iconst 0, 1) := by decide +kernel
theorem dX4_makeNet_2 : decode cX4_makeNet 2 = .ok (.putfield 26, 3) := by decide +kernel
theorem dX4_makeNet_5 : decode cX4_makeNet 5 = .ok (.aload_n 0, 1) := by decide +kernel
theorem dX4_makeNet_6 : decode cX4_makeNet 6 = .ok (.getfield 33, 3) := by decide +kernel
theorem dX4_makeNet_9 : decode cX4_makeNet 9 = .ok (.ifCond .ne 82, 3) := by decide +kernel
theorem dX4_makeNet_12 : decode cX4_makeNet 12 = .ok (.aload_n 0, 1) := by decide +kernel
theorem dX4_makeNet_13 : decode cX4_makeNet 13 = .ok (.invokevirtual 76, 3) := by decide +kernel
theorem dX4_makeNet_16 : decode cX4_makeNet 16 = .ok (.aload_n 0, 1) := by decide +kernel
theorem dX4_makeNet_17 : decode cX4_makeNet 17 = .ok (.iconst 0, 1) := by decide +kernel
theorem dX4_makeNet_18 : decode cX4_makeNet 18 = .ok (.putfield 102, 3) := by decide +kernel
theorem dX4_makeNet_21 : decode cX4_makeNet 21 = .ok (.iconst 0, 1) := by decide +kernel
theorem dX4_makeNet_22 : decode cX4_makeNet 22 = .ok (.istore_n 1, 1) := by decide +kernel
theorem dX4_makeNet_23 : decode cX4_makeNet 23 = .ok (.iload_n 1, 1) := by decide +kernel
theorem dX4_makeNet_24 : decode cX4_makeNet 24 = .ok (.aload_n 0, 1) := by decide +kernel
theorem dX4_makeNet_25 : decode cX4_makeNet 25 = .ok (.getfield 67, 3) := by decide +kernel
theorem dX4_makeNet_28 : decode cX4_makeNet 28 = .ok (.if_icmp .ge 54, 3) := by decide +kernel
theorem dX4_makeNet_31 : decode cX4_makeNet 31 = .ok (.aload_n 0, 1) := by decide +kernel
theorem dX4_makeNet_32 : decode cX4_makeNet 32 = .ok (.getfield 102, 3) := by decide +kernel
theorem dX4_makeNet_35 : decode cX4_makeNet 35 = .ok (.bipush 30, 2) := by decide +kernel
theorem dX4_makeNet_37 : decode cX4_makeNet 37 = .ok (.if_icmp .ge 45, 3) := by decide +kernel
theorem dX4_makeNet_40 : decode cX4_makeNet 40 = .ok (.aload_n 0, 1) := by decide +kernel
theorem dX4_makeNet_41 : decode cX4_makeNet 41 = .ok (.iload_n 1, 1) := by decide +kernel
theorem dX4_makeNet_42 : decode cX4_makeNet 42 = .ok (.invokevirtual 79, 3) := by decide +kernel
theorem dX4_makeNet_45 : decode cX4_makeNet 45 = .ok (.ifCond .ne 6, 3) := by decide +kernel
theorem dX4_makeNet_48 : decode cX4_makeNet 48 = .ok (.goto 28, 3) := by decide +kernel
theorem dX4_makeNet_51 : decode cX4_makeNet 51 = .ok (.aload_n 0, 1) := by decide +kernel
theorem dX4_makeNet_52 : decode cX4_makeNet 52 = .ok (.getfield 20, 3) := by decide +kernel
theorem dX4_makeNet_55 : decode cX4_makeNet 55 = .ok (.aload_n 0, 1) := by decide +kernel
theorem dX4_makeNet_56 : decode cX4_makeNet 56 = .ok (.getfield 102, 3) := by decide +kernel
theorem dX4_makeNet_59 : decode cX4_makeNet 59 = .ok (.aload_n 0, 1) := by decide +kernel
theorem dX4_makeNet_60 : decode cX4_makeNet 60 = .ok (.getfield 17, 3) := by decide +kernel
theorem dX4_makeNet_63 : decode cX4_makeNet 63 = .ok (.iload_n 1, 1) := by decide +kernel
theorem dX4_makeNet_64 : decode cX4_makeNet 64 = .ok (.iaload, 1) := by decide +kernel
theorem dX4_makeNet_65 : decode cX4_makeNet 65 = .ok (.iastore, 1) := by decide +kernel
theorem dX4_makeNet_66 : decode cX4_makeNet 66 = .ok (.aload_n 0, 1) := by decide +kernel
theorem dX4_makeNet_67 : decode cX4_makeNet 67 = .ok (.dup, 1) := by decide +kernel
theorem dX4_makeNet_68 : decode cX4_makeNet 68 = .ok (.getfield 102, 3) := by decide +kernel
theorem dX4_makeNet_71 : decode cX4_makeNet 71 = .ok (.iconst 1, 1) := by decide +kernel
theorem dX4_makeNet_72 : decode cX4_makeNet 72 = .ok (.iadd, 1) := by decide +kernel
theorem dX4_makeNet_73 : decode cX4_makeNet 73 = .ok (.putfield 102, 3) := by decide +kernel
theorem dX4_makeNet_76 : decode cX4_makeNet 76 = .ok (.iinc 1 1, 3) := by decide +kernel
theorem dX4_makeNet_79 : decode cX4_makeNet 79 = .ok (.goto (-56), 3) := by decide +kernel
theorem dX4_makeNet_82 : decode cX4_makeNet 82 = .ok (.aload_n 0, 1) := by decide +kernel
theorem dX4_makeNet_83 : decode cX4_makeNet 83 = .ok (.iconst 1, 1) := by decide +kernel
theorem dX4_makeNet_84 : decode cX4_makeNet 84 = .ok (.putfield 33, 3) := by decide +kernel
theorem dX4_makeNet_87 : decode cX4_makeNet 87 = .ok (.aload_n 0, 1) := by decide +kernel
theorem dX4_makeNet_88 : decode cX4_makeNet 88 = .ok (.invokevirtual 105, 3) := by decide +kernel
theorem dX4_makeNet_91 : decode cX4_makeNet 91 = .ok (.aload_n 0, 1) := by decide +kernel
theorem dX4_makeNet_92 : decode cX4_makeNet 92 = .ok (.aload_n 0, 1) := by decide +kernel
theorem dX4_makeNet_93 : decode cX4_makeNet 93 = .ok (.invokevirtual 108, 3) := by decide +kernel
theorem dX4_makeNet_96 : decode cX4_makeNet 96 = .ok (.putfield 111, 3) := by decide +kernel
theorem dX4_makeNet_99 : decode cX4_makeNet 99 = .ok (.aload_n 0, 1) := by decide +kernel
theorem dX4_makeNet_100 : decode cX4_makeNet 100 = .ok (.getfield 102, 3) := by decide +kernel
theorem dX4_makeNet_103 : decode cX4_makeNet 103 = .ok (.ireturn, 1) := by decide +kernel
theorem dX4_hasNet_0 : decode cX4_hasNet 0 = .ok (.aload_n 0, 1) := by decide +kernel
theorem dX4_hasNet_1 : decode cX4_hasNet 1 = .ok (.iconst 0, 1) := by decide +kernel
theorem dX4_hasNet_2 : decode cX4_hasNet 2 = .ok (.putfield 26, 3) := by decide +kernel
theorem dX4_hasNet_5 : decode cX4_hasNet 5 = .ok (.aload_n 0, 1) := by decide +kernel
theorem dX4_hasNet_6 : decode cX4_hasNet 6 = .ok (.getfield 33, 3) := by decide +kernel
theorem dX4_hasNet_9 : decode cX4_hasNet 9 = .ok (.ireturn, 1) := by decide +kernel
theorem dX4_asks_0 : decode cX4_asks 0 = .ok (.aload_n 0, 1) := by decide +kernel
theorem dX4_asks_1 : decode cX4_asks 1 = .ok (.aload_n 0, 1) := by decide +kernel
theorem dX4_asks_2 : decode cX4_asks 2 = .ok (.getfield 33, 3) := by decide +kernel
theorem dX4_asks_5 : decode cX4_asks 5 = .ok (.ifCond .ne 7, 3) := by decide +kernel
theorem dX4_asks_8 : decode cX4_asks 8 = .ok (.iconst 1, 1) := by decide +kernel
theorem dX4_asks_9 : decode cX4_asks 9 = .ok (.goto 17, 3) := by decide +kernel
theorem dX4_asks_12 : decode cX4_asks 12 = .ok (.iload_n 1, 1) := by decide +kernel
theorem dX4_asks_13 : decode cX4_asks 13 = .ok (.ifCond .lt 8, 3) := by decide +kernel
theorem dX4_asks_16 : decode cX4_asks 16 = .ok (.iload_n 1, 1) := by decide +kernel
theorem dX4_asks_17 : decode cX4_asks 17 = .ok (.iload_n 2, 1) := by decide +kernel
theorem dX4_asks_18 : decode cX4_asks 18 = .ok (.if_icmp .lt 7, 3) := by decide +kernel
theorem dX4_asks_21 : decode cX4_asks 21 = .ok (.iconst 2, 1) := by decide +kernel
theorem dX4_asks_22 : decode cX4_asks 22 = .ok (.goto 4, 3) := by decide +kernel
theorem dX4_asks_25 : decode cX4_asks 25 = .ok (.iconst 0, 1) := by decide +kernel
theorem dX4_asks_26 : decode cX4_asks 26 = .ok (.putfield 26, 3) := by decide +kernel
theorem dX4_asks_29 : decode cX4_asks 29 = .ok (.aload_n 0, 1) := by decide +kernel
theorem dX4_asks_30 : decode cX4_asks 30 = .ok (.getfield 26, 3) := by decide +kernel
theorem dX4_asks_33 : decode cX4_asks 33 = .ok (.ifCond .ne 7, 3) := by decide +kernel
theorem dX4_asks_36 : decode cX4_asks 36 = .ok (.iconst 1, 1) := by decide +kernel
theorem dX4_asks_37 : decode cX4_asks 37 = .ok (.goto 4, 3) := by decide +kernel
theorem dX4_asks_40 : decode cX4_asks 40 = .ok (.iconst 0, 1) := by decide +kernel
theorem dX4_asks_41 : decode cX4_asks 41 = .ok (.ireturn, 1) := by decide +kernel
set_option maxRecDepth 20000 in
theorem ggX4_placeRegion_X4_asks : GoodIn wsX4_placeRegion wsX4_asks := goodIn_r _ [7, 8, 9, 10, 11, 12, 13, 14, 15, 16, 17, 18, 19, 20, 21] (by decide +kernel) (by decide +kernel)
set_option maxRecDepth 20000 in
theorem gX4_placeRegion_X4_asks : GoodIn wsX4_placeRegion (wsV RX4 114 RX4 yX4_asks wsX4_asks) := goodIn_app (goodIn_of _ (by decide +kernel)) ggX4_placeRegion_X4_asks
theorem dX4_placeRegion_0 : decode cX4_placeRegion 0 = .ok (.aload_n 0, 1) := by decide +kernel
theorem dX4_placeRegion_1 : decode cX4_placeRegion 1 = .ok (.iload_n 1, 1) := by decide +kernel
theorem dX4_placeRegion_2 : decode cX4_placeRegion 2 = .ok (.aload_n 0, 1) := by decide +kernel
theorem dX4_placeRegion_3 : decode cX4_placeRegion 3 = .ok (.getfield 102, 3) := by decide +kernel
theorem dX4_placeRegion_6 : decode cX4_placeRegion 6 = .ok (.invokevirtual 114, 3) := by decide +kernel
theorem dX4_placeRegion_9 : decode cX4_placeRegion 9 = .ok (.ifCond .eq 12, 3) := by decide +kernel
theorem dX4_placeRegion_12 : decode cX4_placeRegion 12 = .ok (.aload_n 0, 1) := by decide +kernel
theorem dX4_placeRegion_13 : decode cX4_placeRegion 13 = .ok (.getfield 20, 3) := by decide +kernel
theorem dX4_placeRegion_16 : decode cX4_placeRegion 16 = .ok (.iload_n 1, 1) := by decide +kernel
theorem dX4_placeRegion_17 : decode cX4_placeRegion 17 = .ok (.iaload, 1) := by decide +kernel
theorem dX4_placeRegion_18 : decode cX4_placeRegion 18 = .ok (.goto 4, 3) := by decide +kernel
theorem dX4_placeRegion_21 : decode cX4_placeRegion 21 = .ok (.iconst 0, 1) := by decide +kernel
theorem dX4_placeRegion_22 : decode cX4_placeRegion 22 = .ok (.ireturn, 1) := by decide +kernel
set_option maxRecDepth 20000 in
theorem ggX4_crossed_X4_way : GoodIn wsX4_crossed wsX4_way := goodIn_r _ [7, 8, 9, 10, 11, 6, 12, 13, 14, 15, 16, 17, 18, 19, 20, 21, 22, 23, 24, 25, 26, 27, 28] (by decide +kernel) (by decide +kernel)
set_option maxRecDepth 20000 in
theorem gX4_crossed_X4_way : GoodIn wsX4_crossed (wsV RX4 61 RX4 yX4_way wsX4_way) := goodIn_app (goodIn_of _ (by decide +kernel)) ggX4_crossed_X4_way
theorem dX4_crossed_0 : decode cX4_crossed 0 = .ok (.iconst 0, 1) := by decide +kernel
theorem dX4_crossed_1 : decode cX4_crossed 1 = .ok (.istore_n 3, 1) := by decide +kernel
theorem dX4_crossed_2 : decode cX4_crossed 2 = .ok (.iconst 0, 1) := by decide +kernel
theorem dX4_crossed_3 : decode cX4_crossed 3 = .ok (.istore 4, 2) := by decide +kernel
theorem dX4_crossed_5 : decode cX4_crossed 5 = .ok (.iload 4, 2) := by decide +kernel
theorem dX4_crossed_7 : decode cX4_crossed 7 = .ok (.aload_n 0, 1) := by decide +kernel
theorem dX4_crossed_8 : decode cX4_crossed 8 = .ok (.getfield 102, 3) := by decide +kernel
theorem dX4_crossed_11 : decode cX4_crossed 11 = .ok (.if_icmp .ge 32, 3) := by decide +kernel
theorem dX4_crossed_14 : decode cX4_crossed 14 = .ok (.aload_n 0, 1) := by decide +kernel
theorem dX4_crossed_15 : decode cX4_crossed 15 = .ok (.aload_n 0, 1) := by decide +kernel
theorem dX4_crossed_16 : decode cX4_crossed 16 = .ok (.getfield 20, 3) := by decide +kernel
theorem dX4_crossed_19 : decode cX4_crossed 19 = .ok (.iload 4, 2) := by decide +kernel
theorem dX4_crossed_21 : decode cX4_crossed 21 = .ok (.iaload, 1) := by decide +kernel
theorem dX4_crossed_22 : decode cX4_crossed 22 = .ok (.iload_n 1, 1) := by decide +kernel
theorem dX4_crossed_23 : decode cX4_crossed 23 = .ok (.invokevirtual 61, 3) := by decide +kernel
theorem dX4_crossed_26 : decode cX4_crossed 26 = .ok (.iload_n 2, 1) := by decide +kernel
theorem dX4_crossed_27 : decode cX4_crossed 27 = .ok (.if_icmp .ne 10, 3) := by decide +kernel
theorem dX4_crossed_30 : decode cX4_crossed 30 = .ok (.iload_n 3, 1) := by decide +kernel
theorem dX4_crossed_31 : decode cX4_crossed 31 = .ok (.iconst 1, 1) := by decide +kernel
theorem dX4_crossed_32 : decode cX4_crossed 32 = .ok (.iload 4, 2) := by decide +kernel
theorem dX4_crossed_34 : decode cX4_crossed 34 = .ok (.ishl, 1) := by decide +kernel
theorem dX4_crossed_35 : decode cX4_crossed 35 = .ok (.ior, 1) := by decide +kernel
theorem dX4_crossed_36 : decode cX4_crossed 36 = .ok (.istore_n 3, 1) := by decide +kernel
theorem dX4_crossed_37 : decode cX4_crossed 37 = .ok (.iinc 4 1, 3) := by decide +kernel
theorem dX4_crossed_40 : decode cX4_crossed 40 = .ok (.goto (-35), 3) := by decide +kernel
theorem dX4_crossed_43 : decode cX4_crossed 43 = .ok (.iload_n 3, 1) := by decide +kernel
theorem dX4_crossed_44 : decode cX4_crossed 44 = .ok (.ireturn, 1) := by decide +kernel
set_option maxRecDepth 20000 in
theorem ggX4_consumed_X4_asks : GoodIn wsX4_consumed wsX4_asks := goodIn_r _ [5, 6, 7, 27, 28, 29, 30, 31, 32, 33, 34, 35, 36, 37, 38] (by decide +kernel) (by decide +kernel)
set_option maxRecDepth 20000 in
theorem gX4_consumed_X4_asks : GoodIn wsX4_consumed (wsV RX4 114 RX4 yX4_asks wsX4_asks) := goodIn_app (goodIn_of _ (by decide +kernel)) ggX4_consumed_X4_asks
set_option maxRecDepth 20000 in
theorem ggX4_consumed_X4_crossed : GoodIn wsX4_consumed wsX4_crossed := goodIn_r _ [11, 12, 13, 14, 15, 16, 4, 17, 18, 19, 20, 21, 22, 23, 24, 25, 26, 27, 28, 29, 30, 31, 32, 33, 34, 35, 36, 37, 38] (by decide +kernel) (by decide +kernel)
set_option maxRecDepth 20000 in
theorem gX4_consumed_X4_crossed : GoodIn wsX4_consumed (wsV RX4 117 RX4 yX4_crossed wsX4_crossed) := goodIn_app (goodIn_of _ (by decide +kernel)) ggX4_consumed_X4_crossed
theorem dX4_consumed_0 : decode cX4_consumed 0 = .ok (.aload_n 0, 1) := by decide +kernel
theorem dX4_consumed_1 : decode cX4_consumed 1 = .ok (.iload_n 1, 1) := by decide +kernel
theorem dX4_consumed_2 : decode cX4_consumed 2 = .ok (.bipush 6, 2) := by decide +kernel
theorem dX4_consumed_4 : decode cX4_consumed 4 = .ok (.invokevirtual 114, 3) := by decide +kernel
theorem dX4_consumed_7 : decode cX4_consumed 7 = .ok (.ifCond .eq 12, 3) := by decide +kernel
theorem dX4_consumed_10 : decode cX4_consumed 10 = .ok (.aload_n 0, 1) := by decide +kernel
theorem dX4_consumed_11 : decode cX4_consumed 11 = .ok (.iload_n 1, 1) := by decide +kernel
theorem dX4_consumed_12 : decode cX4_consumed 12 = .ok (.iconst 2, 1) := by decide +kernel
theorem dX4_consumed_13 : decode cX4_consumed 13 = .ok (.invokevirtual 117, 3) := by decide +kernel
theorem dX4_consumed_16 : decode cX4_consumed 16 = .ok (.goto 4, 3) := by decide +kernel
theorem dX4_consumed_19 : decode cX4_consumed 19 = .ok (.iconst 0, 1) := by decide +kernel
theorem dX4_consumed_20 : decode cX4_consumed 20 = .ok (.ireturn, 1) := by decide +kernel
set_option maxRecDepth 20000 in
theorem ggX4_produced_X4_asks : GoodIn wsX4_produced wsX4_asks := goodIn_r _ [5, 6, 7, 27, 28, 29, 30, 31, 32, 33, 34, 35, 36, 37, 38] (by decide +kernel) (by decide +kernel)
set_option maxRecDepth 20000 in
theorem gX4_produced_X4_asks : GoodIn wsX4_produced (wsV RX4 114 RX4 yX4_asks wsX4_asks) := goodIn_app (goodIn_of _ (by decide +kernel)) ggX4_produced_X4_asks
set_option maxRecDepth 20000 in
theorem ggX4_produced_X4_crossed : GoodIn wsX4_produced wsX4_crossed := goodIn_r _ [11, 12, 13, 14, 15, 16, 4, 17, 18, 19, 20, 21, 22, 23, 24, 25, 26, 27, 28, 29, 30, 31, 32, 33, 34, 35, 36, 37, 38] (by decide +kernel) (by decide +kernel)
set_option maxRecDepth 20000 in
theorem gX4_produced_X4_crossed : GoodIn wsX4_produced (wsV RX4 117 RX4 yX4_crossed wsX4_crossed) := goodIn_app (goodIn_of _ (by decide +kernel)) ggX4_produced_X4_crossed
theorem dX4_produced_0 : decode cX4_produced 0 = .ok (.aload_n 0, 1) := by decide +kernel
theorem dX4_produced_1 : decode cX4_produced 1 = .ok (.iload_n 1, 1) := by decide +kernel
theorem dX4_produced_2 : decode cX4_produced 2 = .ok (.bipush 6, 2) := by decide +kernel
theorem dX4_produced_4 : decode cX4_produced 4 = .ok (.invokevirtual 114, 3) := by decide +kernel
theorem dX4_produced_7 : decode cX4_produced 7 = .ok (.ifCond .eq 12, 3) := by decide +kernel
theorem dX4_produced_10 : decode cX4_produced 10 = .ok (.aload_n 0, 1) := by decide +kernel
theorem dX4_produced_11 : decode cX4_produced 11 = .ok (.iload_n 1, 1) := by decide +kernel
theorem dX4_produced_12 : decode cX4_produced 12 = .ok (.iconst 1, 1) := by decide +kernel
theorem dX4_produced_13 : decode cX4_produced 13 = .ok (.invokevirtual 117, 3) := by decide +kernel
theorem dX4_produced_16 : decode cX4_produced 16 = .ok (.goto 4, 3) := by decide +kernel
theorem dX4_produced_19 : decode cX4_produced 19 = .ok (.iconst 0, 1) := by decide +kernel
theorem dX4_produced_20 : decode cX4_produced 20 = .ok (.ireturn, 1) := by decide +kernel
set_option maxRecDepth 20000 in
theorem ggX4_marking_X4_asks : GoodIn wsX4_marking wsX4_asks := goodIn_r _ [6, 7, 8, 9, 10, 11, 12, 13, 14, 15, 16, 17, 18, 19, 20] (by decide +kernel) (by decide +kernel)
set_option maxRecDepth 20000 in
theorem gX4_marking_X4_asks : GoodIn wsX4_marking (wsV RX4 114 RX4 yX4_asks wsX4_asks) := goodIn_app (goodIn_of _ (by decide +kernel)) ggX4_marking_X4_asks
theorem dX4_marking_0 : decode cX4_marking 0 = .ok (.aload_n 0, 1) := by decide +kernel
theorem dX4_marking_1 : decode cX4_marking 1 = .ok (.iconst 0, 1) := by decide +kernel
theorem dX4_marking_2 : decode cX4_marking 2 = .ok (.iconst 1, 1) := by decide +kernel
theorem dX4_marking_3 : decode cX4_marking 3 = .ok (.invokevirtual 114, 3) := by decide +kernel
theorem dX4_marking_6 : decode cX4_marking 6 = .ok (.ifCond .eq 10, 3) := by decide +kernel
theorem dX4_marking_9 : decode cX4_marking 9 = .ok (.aload_n 0, 1) := by decide +kernel
theorem dX4_marking_10 : decode cX4_marking 10 = .ok (.getfield 111, 3) := by decide +kernel
theorem dX4_marking_13 : decode cX4_marking 13 = .ok (.goto 4, 3) := by decide +kernel
theorem dX4_marking_16 : decode cX4_marking 16 = .ok (.iconst 0, 1) := by decide +kernel
theorem dX4_marking_17 : decode cX4_marking 17 = .ok (.ireturn, 1) := by decide +kernel
set_option maxRecDepth 20000 in
theorem ggX4_behind_X4_crossed : GoodIn wsX4_behind wsX4_crossed := goodIn_r _ [5, 6, 7, 8, 9, 10, 4, 11, 12, 13, 14, 15, 16, 17, 18, 19, 20, 25, 26, 27, 28, 29, 30, 31, 32, 33, 34, 35, 36] (by decide +kernel) (by decide +kernel)
set_option maxRecDepth 20000 in
theorem gX4_behind_X4_crossed : GoodIn wsX4_behind (wsV RX4 117 RX4 yX4_crossed wsX4_crossed) := goodIn_app (goodIn_of _ (by decide +kernel)) ggX4_behind_X4_crossed
set_option maxRecDepth 20000 in
theorem ggX4_behind_X4_ends : GoodIn wsX4_behind wsX4_ends := goodIn_r _ [24, 12, 13, 14, 15, 4, 16, 17, 25, 26, 27, 28, 29, 30, 31, 32, 33, 34, 35, 36] (by decide +kernel) (by decide +kernel)
set_option maxRecDepth 20000 in
theorem gX4_behind_X4_ends : GoodIn wsX4_behind (wsV RX4 82 RX4 yX4_ends wsX4_ends) := goodIn_app (goodIn_of _ (by decide +kernel)) ggX4_behind_X4_ends
theorem dX4_behind_0 : decode cX4_behind 0 = .ok (.aload_n 0, 1) := by decide +kernel
theorem dX4_behind_1 : decode cX4_behind 1 = .ok (.iload_n 2, 1) := by decide +kernel
theorem dX4_behind_2 : decode cX4_behind 2 = .ok (.iconst 2, 1) := by decide +kernel
theorem dX4_behind_3 : decode cX4_behind 3 = .ok (.invokevirtual 117, 3) := by decide +kernel
theorem dX4_behind_6 : decode cX4_behind 6 = .ok (.istore_n 3, 1) := by decide +kernel
theorem dX4_behind_7 : decode cX4_behind 7 = .ok (.aload_n 0, 1) := by decide +kernel
theorem dX4_behind_8 : decode cX4_behind 8 = .ok (.iload_n 2, 1) := by decide +kernel
theorem dX4_behind_9 : decode cX4_behind 9 = .ok (.iconst 1, 1) := by decide +kernel
theorem dX4_behind_10 : decode cX4_behind 10 = .ok (.invokevirtual 117, 3) := by decide +kernel
theorem dX4_behind_13 : decode cX4_behind 13 = .ok (.istore 4, 2) := by decide +kernel
theorem dX4_behind_15 : decode cX4_behind 15 = .ok (.aload_n 0, 1) := by decide +kernel
theorem dX4_behind_16 : decode cX4_behind 16 = .ok (.iload_n 2, 1) := by decide +kernel
theorem dX4_behind_17 : decode cX4_behind 17 = .ok (.iconst 1, 1) := by decide +kernel
theorem dX4_behind_18 : decode cX4_behind 18 = .ok (.invokevirtual 82, 3) := by decide +kernel
theorem dX4_behind_21 : decode cX4_behind 21 = .ok (.ifCond .eq 18, 3) := by decide +kernel
theorem dX4_behind_24 : decode cX4_behind 24 = .ok (.iload_n 3, 1) := by decide +kernel
theorem dX4_behind_25 : decode cX4_behind 25 = .ok (.iload_n 1, 1) := by decide +kernel
theorem dX4_behind_26 : decode cX4_behind 26 = .ok (.iconst (-1), 1) := by decide +kernel
theorem dX4_behind_27 : decode cX4_behind 27 = .ok (.ixor, 1) := by decide +kernel
theorem dX4_behind_28 : decode cX4_behind 28 = .ok (.iand, 1) := by decide +kernel
theorem dX4_behind_29 : decode cX4_behind 29 = .ok (.ifCond .ne 10, 3) := by decide +kernel
theorem dX4_behind_32 : decode cX4_behind 32 = .ok (.iload 4, 2) := by decide +kernel
theorem dX4_behind_34 : decode cX4_behind 34 = .ok (.iload_n 1, 1) := by decide +kernel
theorem dX4_behind_35 : decode cX4_behind 35 = .ok (.iand, 1) := by decide +kernel
theorem dX4_behind_36 : decode cX4_behind 36 = .ok (.ifCond .eq 5, 3) := by decide +kernel
theorem dX4_behind_39 : decode cX4_behind 39 = .ok (.iconst (-1), 1) := by decide +kernel
theorem dX4_behind_40 : decode cX4_behind 40 = .ok (.ireturn, 1) := by decide +kernel
theorem dX4_behind_41 : decode cX4_behind 41 = .ok (.iload_n 1, 1) := by decide +kernel
theorem dX4_behind_42 : decode cX4_behind 42 = .ok (.iload_n 3, 1) := by decide +kernel
theorem dX4_behind_43 : decode cX4_behind 43 = .ok (.iconst (-1), 1) := by decide +kernel
theorem dX4_behind_44 : decode cX4_behind 44 = .ok (.ixor, 1) := by decide +kernel
theorem dX4_behind_45 : decode cX4_behind 45 = .ok (.iand, 1) := by decide +kernel
theorem dX4_behind_46 : decode cX4_behind 46 = .ok (.iload 4, 2) := by decide +kernel
theorem dX4_behind_48 : decode cX4_behind 48 = .ok (.ior, 1) := by decide +kernel
theorem dX4_behind_49 : decode cX4_behind 49 = .ok (.ireturn, 1) := by decide +kernel
set_option maxRecDepth 20000 in
theorem ggX4_fire_X4_asks : GoodIn wsX4_fire wsX4_asks := goodIn_r _ [6, 7, 8, 36, 37, 38, 39, 40, 41, 42, 43, 44, 45, 46, 47] (by decide +kernel) (by decide +kernel)
set_option maxRecDepth 20000 in
theorem gX4_fire_X4_asks : GoodIn wsX4_fire (wsV RX4 114 RX4 yX4_asks wsX4_asks) := goodIn_app (goodIn_of _ (by decide +kernel)) ggX4_fire_X4_asks
set_option maxRecDepth 20000 in
theorem ggX4_fire_X4_behind : GoodIn wsX4_fire wsX4_behind := goodIn_r _ [12, 13, 14, 15, 5, 16, 17, 18, 19, 20, 21, 22, 23, 24, 25, 26, 27, 28, 29, 30, 31, 32, 33, 34, 35, 36, 37, 38, 39, 40, 41, 42, 43, 44, 45, 46, 47] (by decide +kernel) (by decide +kernel)
set_option maxRecDepth 20000 in
theorem gX4_fire_X4_behind : GoodIn wsX4_fire (wsV RX4 120 RX4 yX4_behind wsX4_behind) := goodIn_app (goodIn_of _ (by decide +kernel)) ggX4_fire_X4_behind
theorem dX4_fire_0 : decode cX4_fire 0 = .ok (.aload_n 0, 1) := by decide +kernel
theorem dX4_fire_1 : decode cX4_fire 1 = .ok (.iload_n 1, 1) := by decide +kernel
theorem dX4_fire_2 : decode cX4_fire 2 = .ok (.bipush 6, 2) := by decide +kernel
theorem dX4_fire_4 : decode cX4_fire 4 = .ok (.invokevirtual 114, 3) := by decide +kernel
theorem dX4_fire_7 : decode cX4_fire 7 = .ok (.ifCond .ne 5, 3) := by decide +kernel
theorem dX4_fire_10 : decode cX4_fire 10 = .ok (.iconst 0, 1) := by decide +kernel
theorem dX4_fire_11 : decode cX4_fire 11 = .ok (.ireturn, 1) := by decide +kernel
theorem dX4_fire_12 : decode cX4_fire 12 = .ok (.aload_n 0, 1) := by decide +kernel
theorem dX4_fire_13 : decode cX4_fire 13 = .ok (.aload_n 0, 1) := by decide +kernel
theorem dX4_fire_14 : decode cX4_fire 14 = .ok (.getfield 111, 3) := by decide +kernel
theorem dX4_fire_17 : decode cX4_fire 17 = .ok (.iload_n 1, 1) := by decide +kernel
theorem dX4_fire_18 : decode cX4_fire 18 = .ok (.invokevirtual 120, 3) := by decide +kernel
theorem dX4_fire_21 : decode cX4_fire 21 = .ok (.istore_n 2, 1) := by decide +kernel
theorem dX4_fire_22 : decode cX4_fire 22 = .ok (.iload_n 2, 1) := by decide +kernel
theorem dX4_fire_23 : decode cX4_fire 23 = .ok (.iconst (-1), 1) := by decide +kernel
theorem dX4_fire_24 : decode cX4_fire 24 = .ok (.if_icmp .eq 8, 3) := by decide +kernel
theorem dX4_fire_27 : decode cX4_fire 27 = .ok (.aload_n 0, 1) := by decide +kernel
theorem dX4_fire_28 : decode cX4_fire 28 = .ok (.iload_n 2, 1) := by decide +kernel
theorem dX4_fire_29 : decode cX4_fire 29 = .ok (.putfield 111, 3) := by decide +kernel
theorem dX4_fire_32 : decode cX4_fire 32 = .ok (.iload_n 2, 1) := by decide +kernel
theorem dX4_fire_33 : decode cX4_fire 33 = .ok (.ireturn, 1) := by decide +kernel
theorem dX4_numberOf_0 : decode cX4_numberOf 0 = .ok (.iconst 0, 1) := by decide +kernel
theorem dX4_numberOf_1 : decode cX4_numberOf 1 = .ok (.istore_n 2, 1) := by decide +kernel
theorem dX4_numberOf_2 : decode cX4_numberOf 2 = .ok (.iload_n 2, 1) := by decide +kernel
theorem dX4_numberOf_3 : decode cX4_numberOf 3 = .ok (.aload_n 0, 1) := by decide +kernel
theorem dX4_numberOf_4 : decode cX4_numberOf 4 = .ok (.getfield 123, 3) := by decide +kernel
theorem dX4_numberOf_7 : decode cX4_numberOf 7 = .ok (.if_icmp .ge 21, 3) := by decide +kernel
theorem dX4_numberOf_10 : decode cX4_numberOf 10 = .ok (.aload_n 0, 1) := by decide +kernel
theorem dX4_numberOf_11 : decode cX4_numberOf 11 = .ok (.getfield 23, 3) := by decide +kernel
theorem dX4_numberOf_14 : decode cX4_numberOf 14 = .ok (.iload_n 2, 1) := by decide +kernel
theorem dX4_numberOf_15 : decode cX4_numberOf 15 = .ok (.iaload, 1) := by decide +kernel
theorem dX4_numberOf_16 : decode cX4_numberOf 16 = .ok (.iload_n 1, 1) := by decide +kernel
theorem dX4_numberOf_17 : decode cX4_numberOf 17 = .ok (.if_icmp .ne 5, 3) := by decide +kernel
theorem dX4_numberOf_20 : decode cX4_numberOf 20 = .ok (.iload_n 2, 1) := by decide +kernel
theorem dX4_numberOf_21 : decode cX4_numberOf 21 = .ok (.ireturn, 1) := by decide +kernel
theorem dX4_numberOf_22 : decode cX4_numberOf 22 = .ok (.iinc 2 1, 3) := by decide +kernel
theorem dX4_numberOf_25 : decode cX4_numberOf 25 = .ok (.goto (-23), 3) := by decide +kernel
theorem dX4_numberOf_28 : decode cX4_numberOf 28 = .ok (.iconst (-1), 1) := by decide +kernel
theorem dX4_numberOf_29 : decode cX4_numberOf 29 = .ok (.ireturn, 1) := by decide +kernel
set_option maxRecDepth 20000 in
theorem ggX4_findMarkings_X4_firstMarking : GoodIn wsX4_findMarkings wsX4_firstMarking := goodIn_r _ [7, 8, 9, 10, 11, 6, 12, 39, 40, 41, 42, 43, 44, 45, 46, 47, 48, 49, 50] (by decide +kernel) (by decide +kernel)
set_option maxRecDepth 20000 in
theorem gX4_findMarkings_X4_firstMarking : GoodIn wsX4_findMarkings (wsV RX4 108 RX4 yX4_firstMarking wsX4_firstMarking) := goodIn_app (goodIn_of _ (by decide +kernel)) ggX4_findMarkings_X4_firstMarking
set_option maxRecDepth 20000 in
theorem ggX4_findMarkings_X4_behind : GoodIn wsX4_findMarkings wsX4_behind := goodIn_r _ [16, 17, 18, 19, 6, 20, 8, 9, 21, 22, 23, 24, 25, 26, 27, 28, 29, 30, 10, 11, 12, 31, 32, 33, 34, 39, 40, 41, 42, 43, 44, 45, 46, 47, 48, 49, 50] (by decide +kernel) (by decide +kernel)
set_option maxRecDepth 20000 in
theorem gX4_findMarkings_X4_behind : GoodIn wsX4_findMarkings (wsV RX4 120 RX4 yX4_behind wsX4_behind) := goodIn_app (goodIn_of _ (by decide +kernel)) ggX4_findMarkings_X4_behind
set_option maxRecDepth 20000 in
theorem ggX4_findMarkings_X4_numberOf : GoodIn wsX4_findMarkings wsX4_numberOf := goodIn_r _ [38, 2, 1, 39, 40, 41, 42, 43, 44, 45, 46, 47, 48, 49, 50] (by decide +kernel) (by decide +kernel)
set_option maxRecDepth 20000 in
theorem gX4_findMarkings_X4_numberOf : GoodIn wsX4_findMarkings (wsV RX4 126 RX4 yX4_numberOf wsX4_numberOf) := goodIn_app (goodIn_of _ (by decide +kernel)) ggX4_findMarkings_X4_numberOf
theorem dX4_findMarkings_0 : decode cX4_findMarkings 0 = .ok (.aload_n 0, 1) := by decide +kernel
theorem dX4_findMarkings_1 : decode cX4_findMarkings 1 = .ok (.getfield 23, 3) := by decide +kernel
theorem dX4_findMarkings_4 : decode cX4_findMarkings 4 = .ok (.iconst 0, 1) := by decide +kernel
theorem dX4_findMarkings_5 : decode cX4_findMarkings 5 = .ok (.aload_n 0, 1) := by decide +kernel
theorem dX4_findMarkings_6 : decode cX4_findMarkings 6 = .ok (.invokevirtual 108, 3) := by decide +kernel
theorem dX4_findMarkings_9 : decode cX4_findMarkings 9 = .ok (.iastore, 1) := by decide +kernel
theorem dX4_findMarkings_10 : decode cX4_findMarkings 10 = .ok (.aload_n 0, 1) := by decide +kernel
theorem dX4_findMarkings_11 : decode cX4_findMarkings 11 = .ok (.iconst 1, 1) := by decide +kernel
theorem dX4_findMarkings_12 : decode cX4_findMarkings 12 = .ok (.putfield 123, 3) := by decide +kernel
theorem dX4_findMarkings_15 : decode cX4_findMarkings 15 = .ok (.iconst 0, 1) := by decide +kernel
theorem dX4_findMarkings_16 : decode cX4_findMarkings 16 = .ok (.istore_n 1, 1) := by decide +kernel
theorem dX4_findMarkings_17 : decode cX4_findMarkings 17 = .ok (.iload_n 1, 1) := by decide +kernel
theorem dX4_findMarkings_18 : decode cX4_findMarkings 18 = .ok (.aload_n 0, 1) := by decide +kernel
theorem dX4_findMarkings_19 : decode cX4_findMarkings 19 = .ok (.getfield 123, 3) := by decide +kernel
theorem dX4_findMarkings_22 : decode cX4_findMarkings 22 = .ok (.if_icmp .ge 82, 3) := by decide +kernel
theorem dX4_findMarkings_25 : decode cX4_findMarkings 25 = .ok (.iconst 0, 1) := by decide +kernel
theorem dX4_findMarkings_26 : decode cX4_findMarkings 26 = .ok (.istore_n 2, 1) := by decide +kernel
theorem dX4_findMarkings_27 : decode cX4_findMarkings 27 = .ok (.iload_n 2, 1) := by decide +kernel
theorem dX4_findMarkings_28 : decode cX4_findMarkings 28 = .ok (.bipush 6, 2) := by decide +kernel
theorem dX4_findMarkings_30 : decode cX4_findMarkings 30 = .ok (.if_icmp .ge 68, 3) := by decide +kernel
theorem dX4_findMarkings_33 : decode cX4_findMarkings 33 = .ok (.aload_n 0, 1) := by decide +kernel
theorem dX4_findMarkings_34 : decode cX4_findMarkings 34 = .ok (.getfield 123, 3) := by decide +kernel
theorem dX4_findMarkings_37 : decode cX4_findMarkings 37 = .ok (.sipush 200, 3) := by decide +kernel
theorem dX4_findMarkings_40 : decode cX4_findMarkings 40 = .ok (.if_icmp .ge 58, 3) := by decide +kernel
theorem dX4_findMarkings_43 : decode cX4_findMarkings 43 = .ok (.aload_n 0, 1) := by decide +kernel
theorem dX4_findMarkings_44 : decode cX4_findMarkings 44 = .ok (.aload_n 0, 1) := by decide +kernel
theorem dX4_findMarkings_45 : decode cX4_findMarkings 45 = .ok (.getfield 23, 3) := by decide +kernel
theorem dX4_findMarkings_48 : decode cX4_findMarkings 48 = .ok (.iload_n 1, 1) := by decide +kernel
theorem dX4_findMarkings_49 : decode cX4_findMarkings 49 = .ok (.iaload, 1) := by decide +kernel
theorem dX4_findMarkings_50 : decode cX4_findMarkings 50 = .ok (.iload_n 2, 1) := by decide +kernel
theorem dX4_findMarkings_51 : decode cX4_findMarkings 51 = .ok (.invokevirtual 120, 3) := by decide +kernel
theorem dX4_findMarkings_54 : decode cX4_findMarkings 54 = .ok (.istore_n 3, 1) := by decide +kernel
theorem dX4_findMarkings_55 : decode cX4_findMarkings 55 = .ok (.iload_n 3, 1) := by decide +kernel
theorem dX4_findMarkings_56 : decode cX4_findMarkings 56 = .ok (.iconst (-1), 1) := by decide +kernel
theorem dX4_findMarkings_57 : decode cX4_findMarkings 57 = .ok (.if_icmp .eq 35, 3) := by decide +kernel
theorem dX4_findMarkings_60 : decode cX4_findMarkings 60 = .ok (.aload_n 0, 1) := by decide +kernel
theorem dX4_findMarkings_61 : decode cX4_findMarkings 61 = .ok (.iload_n 3, 1) := by decide +kernel
theorem dX4_findMarkings_62 : decode cX4_findMarkings 62 = .ok (.invokevirtual 126, 3) := by decide +kernel
theorem dX4_findMarkings_65 : decode cX4_findMarkings 65 = .ok (.iconst (-1), 1) := by decide +kernel
theorem dX4_findMarkings_66 : decode cX4_findMarkings 66 = .ok (.if_icmp .eq 6, 3) := by decide +kernel
theorem dX4_findMarkings_69 : decode cX4_findMarkings 69 = .ok (.goto 23, 3) := by decide +kernel
theorem dX4_findMarkings_72 : decode cX4_findMarkings 72 = .ok (.aload_n 0, 1) := by decide +kernel
theorem dX4_findMarkings_73 : decode cX4_findMarkings 73 = .ok (.getfield 23, 3) := by decide +kernel
theorem dX4_findMarkings_76 : decode cX4_findMarkings 76 = .ok (.aload_n 0, 1) := by decide +kernel
theorem dX4_findMarkings_77 : decode cX4_findMarkings 77 = .ok (.getfield 123, 3) := by decide +kernel
theorem dX4_findMarkings_80 : decode cX4_findMarkings 80 = .ok (.iload_n 3, 1) := by decide +kernel
theorem dX4_findMarkings_81 : decode cX4_findMarkings 81 = .ok (.iastore, 1) := by decide +kernel
theorem dX4_findMarkings_82 : decode cX4_findMarkings 82 = .ok (.aload_n 0, 1) := by decide +kernel
theorem dX4_findMarkings_83 : decode cX4_findMarkings 83 = .ok (.dup, 1) := by decide +kernel
theorem dX4_findMarkings_84 : decode cX4_findMarkings 84 = .ok (.getfield 123, 3) := by decide +kernel
theorem dX4_findMarkings_87 : decode cX4_findMarkings 87 = .ok (.iconst 1, 1) := by decide +kernel
theorem dX4_findMarkings_88 : decode cX4_findMarkings 88 = .ok (.iadd, 1) := by decide +kernel
theorem dX4_findMarkings_89 : decode cX4_findMarkings 89 = .ok (.putfield 123, 3) := by decide +kernel
theorem dX4_findMarkings_92 : decode cX4_findMarkings 92 = .ok (.iinc 2 1, 3) := by decide +kernel
theorem dX4_findMarkings_95 : decode cX4_findMarkings 95 = .ok (.goto (-68), 3) := by decide +kernel
theorem dX4_findMarkings_98 : decode cX4_findMarkings 98 = .ok (.iinc 1 1, 3) := by decide +kernel
theorem dX4_findMarkings_101 : decode cX4_findMarkings 101 = .ok (.goto (-84), 3) := by decide +kernel
theorem dX4_findMarkings_104 : decode cX4_findMarkings 104 = .ok (.return_, 1) := by decide +kernel
set_option maxRecDepth 20000 in
theorem ggX4_markingCount_X4_asks : GoodIn wsX4_markingCount wsX4_asks := goodIn_r _ [6, 7, 8, 9, 10, 11, 12, 13, 14, 15, 16, 17, 18, 19, 20] (by decide +kernel) (by decide +kernel)
set_option maxRecDepth 20000 in
theorem gX4_markingCount_X4_asks : GoodIn wsX4_markingCount (wsV RX4 114 RX4 yX4_asks wsX4_asks) := goodIn_app (goodIn_of _ (by decide +kernel)) ggX4_markingCount_X4_asks
theorem dX4_markingCount_0 : decode cX4_markingCount 0 = .ok (.aload_n 0, 1) := by decide +kernel
theorem dX4_markingCount_1 : decode cX4_markingCount 1 = .ok (.iconst 0, 1) := by decide +kernel
theorem dX4_markingCount_2 : decode cX4_markingCount 2 = .ok (.iconst 1, 1) := by decide +kernel
theorem dX4_markingCount_3 : decode cX4_markingCount 3 = .ok (.invokevirtual 114, 3) := by decide +kernel
theorem dX4_markingCount_6 : decode cX4_markingCount 6 = .ok (.ifCond .eq 10, 3) := by decide +kernel
theorem dX4_markingCount_9 : decode cX4_markingCount 9 = .ok (.aload_n 0, 1) := by decide +kernel
theorem dX4_markingCount_10 : decode cX4_markingCount 10 = .ok (.getfield 123, 3) := by decide +kernel
theorem dX4_markingCount_13 : decode cX4_markingCount 13 = .ok (.goto 4, 3) := by decide +kernel
theorem dX4_markingCount_16 : decode cX4_markingCount 16 = .ok (.iconst 0, 1) := by decide +kernel
theorem dX4_markingCount_17 : decode cX4_markingCount 17 = .ok (.ireturn, 1) := by decide +kernel
set_option maxRecDepth 20000 in
theorem ggX4_markingAt_X4_asks : GoodIn wsX4_markingAt wsX4_asks := goodIn_r _ [7, 8, 9, 10, 11, 12, 13, 14, 15, 16, 17, 18, 19, 20, 21] (by decide +kernel) (by decide +kernel)
set_option maxRecDepth 20000 in
theorem gX4_markingAt_X4_asks : GoodIn wsX4_markingAt (wsV RX4 114 RX4 yX4_asks wsX4_asks) := goodIn_app (goodIn_of _ (by decide +kernel)) ggX4_markingAt_X4_asks
theorem dX4_markingAt_0 : decode cX4_markingAt 0 = .ok (.aload_n 0, 1) := by decide +kernel
theorem dX4_markingAt_1 : decode cX4_markingAt 1 = .ok (.iload_n 1, 1) := by decide +kernel
theorem dX4_markingAt_2 : decode cX4_markingAt 2 = .ok (.aload_n 0, 1) := by decide +kernel
theorem dX4_markingAt_3 : decode cX4_markingAt 3 = .ok (.getfield 123, 3) := by decide +kernel
theorem dX4_markingAt_6 : decode cX4_markingAt 6 = .ok (.invokevirtual 114, 3) := by decide +kernel
theorem dX4_markingAt_9 : decode cX4_markingAt 9 = .ok (.ifCond .eq 12, 3) := by decide +kernel
theorem dX4_markingAt_12 : decode cX4_markingAt 12 = .ok (.aload_n 0, 1) := by decide +kernel
theorem dX4_markingAt_13 : decode cX4_markingAt 13 = .ok (.getfield 23, 3) := by decide +kernel
theorem dX4_markingAt_16 : decode cX4_markingAt 16 = .ok (.iload_n 1, 1) := by decide +kernel
theorem dX4_markingAt_17 : decode cX4_markingAt 17 = .ok (.iaload, 1) := by decide +kernel
theorem dX4_markingAt_18 : decode cX4_markingAt 18 = .ok (.goto 4, 3) := by decide +kernel
theorem dX4_markingAt_21 : decode cX4_markingAt 21 = .ok (.iconst 0, 1) := by decide +kernel
theorem dX4_markingAt_22 : decode cX4_markingAt 22 = .ok (.ireturn, 1) := by decide +kernel
set_option maxRecDepth 20000 in
theorem ggX4_isFaithful_X4_asks : GoodIn wsX4_isFaithful wsX4_asks := goodIn_r _ [9, 10, 11, 42, 43, 44, 45, 46, 47, 48, 49, 50, 51, 52, 53] (by decide +kernel) (by decide +kernel)
set_option maxRecDepth 20000 in
theorem gX4_isFaithful_X4_asks : GoodIn wsX4_isFaithful (wsV RX4 114 RX4 yX4_asks wsX4_asks) := goodIn_app (goodIn_of _ (by decide +kernel)) ggX4_isFaithful_X4_asks
set_option maxRecDepth 20000 in
theorem ggX4_isFaithful_X4_has : GoodIn wsX4_isFaithful wsX4_has := goodIn_r _ [14] (by decide +kernel) (by decide +kernel)
set_option maxRecDepth 20000 in
theorem gX4_isFaithful_X4_has : GoodIn wsX4_isFaithful (va_wsS RX4 54 yX4_has wsX4_has) := goodIn_app (goodIn_of _ (by decide +kernel)) ggX4_isFaithful_X4_has
set_option maxRecDepth 20000 in
theorem ggX4_isFaithful_X4_to : GoodIn wsX4_isFaithful wsX4_to := goodIn_r _ [18, 19, 42, 43, 44, 45, 46, 47, 48, 49, 50, 51, 52, 53] (by decide +kernel) (by decide +kernel)
set_option maxRecDepth 20000 in
theorem gX4_isFaithful_X4_to : GoodIn wsX4_isFaithful (wsV RX4 50 RX4 yX4_to wsX4_to) := goodIn_app (goodIn_of _ (by decide +kernel)) ggX4_isFaithful_X4_to
set_option maxRecDepth 20000 in
theorem ggX4_isFaithful_X4_behind : GoodIn wsX4_isFaithful wsX4_behind := goodIn_r _ [23, 24, 25, 26, 8, 27, 28, 29, 30, 31, 32, 33, 2, 15, 16, 17, 18, 19, 12, 13, 14, 34, 35, 36, 37, 42, 43, 44, 45, 46, 47, 48, 49, 50, 51, 52, 53] (by decide +kernel) (by decide +kernel)
set_option maxRecDepth 20000 in
theorem gX4_isFaithful_X4_behind : GoodIn wsX4_isFaithful (wsV RX4 120 RX4 yX4_behind wsX4_behind) := goodIn_app (goodIn_of _ (by decide +kernel)) ggX4_isFaithful_X4_behind
set_option maxRecDepth 20000 in
theorem ggX4_isFaithful_X4_numberOf : GoodIn wsX4_isFaithful wsX4_numberOf := goodIn_r _ [41, 4, 3, 42, 43, 44, 45, 46, 47, 48, 49, 50, 51, 52, 53] (by decide +kernel) (by decide +kernel)
set_option maxRecDepth 20000 in
theorem gX4_isFaithful_X4_numberOf : GoodIn wsX4_isFaithful (wsV RX4 126 RX4 yX4_numberOf wsX4_numberOf) := goodIn_app (goodIn_of _ (by decide +kernel)) ggX4_isFaithful_X4_numberOf
theorem dX4_isFaithful_0 : decode cX4_isFaithful 0 = .ok (.aload_n 0, 1) := by decide +kernel
theorem dX4_isFaithful_1 : decode cX4_isFaithful 1 = .ok (.iconst 0, 1) := by decide +kernel
theorem dX4_isFaithful_2 : decode cX4_isFaithful 2 = .ok (.iconst 1, 1) := by decide +kernel
theorem dX4_isFaithful_3 : decode cX4_isFaithful 3 = .ok (.invokevirtual 114, 3) := by decide +kernel
theorem dX4_isFaithful_6 : decode cX4_isFaithful 6 = .ok (.ifCond .ne 5, 3) := by decide +kernel
theorem dX4_isFaithful_9 : decode cX4_isFaithful 9 = .ok (.iconst 0, 1) := by decide +kernel
theorem dX4_isFaithful_10 : decode cX4_isFaithful 10 = .ok (.ireturn, 1) := by decide +kernel
theorem dX4_isFaithful_11 : decode cX4_isFaithful 11 = .ok (.bipush 12, 2) := by decide +kernel
theorem dX4_isFaithful_13 : decode cX4_isFaithful 13 = .ok (.newarray .int, 2) := by decide +kernel
theorem dX4_isFaithful_15 : decode cX4_isFaithful 15 = .ok (.astore_n 1, 1) := by decide +kernel
theorem dX4_isFaithful_16 : decode cX4_isFaithful 16 = .ok (.iconst 0, 1) := by decide +kernel
theorem dX4_isFaithful_17 : decode cX4_isFaithful 17 = .ok (.istore_n 2, 1) := by decide +kernel
theorem dX4_isFaithful_18 : decode cX4_isFaithful 18 = .ok (.iload_n 2, 1) := by decide +kernel
theorem dX4_isFaithful_19 : decode cX4_isFaithful 19 = .ok (.bipush 12, 2) := by decide +kernel
theorem dX4_isFaithful_21 : decode cX4_isFaithful 21 = .ok (.if_icmp .ge 13, 3) := by decide +kernel
theorem dX4_isFaithful_24 : decode cX4_isFaithful 24 = .ok (.aload_n 1, 1) := by decide +kernel
theorem dX4_isFaithful_25 : decode cX4_isFaithful 25 = .ok (.iload_n 2, 1) := by decide +kernel
theorem dX4_isFaithful_26 : decode cX4_isFaithful 26 = .ok (.iconst (-1), 1) := by decide +kernel
theorem dX4_isFaithful_27 : decode cX4_isFaithful 27 = .ok (.iastore, 1) := by decide +kernel
theorem dX4_isFaithful_28 : decode cX4_isFaithful 28 = .ok (.iinc 2 1, 3) := by decide +kernel
theorem dX4_isFaithful_31 : decode cX4_isFaithful 31 = .ok (.goto (-13), 3) := by decide +kernel
theorem dX4_isFaithful_34 : decode cX4_isFaithful 34 = .ok (.aload_n 1, 1) := by decide +kernel
theorem dX4_isFaithful_35 : decode cX4_isFaithful 35 = .ok (.iconst 0, 1) := by decide +kernel
theorem dX4_isFaithful_36 : decode cX4_isFaithful 36 = .ok (.iconst 0, 1) := by decide +kernel
theorem dX4_isFaithful_37 : decode cX4_isFaithful 37 = .ok (.iastore, 1) := by decide +kernel
theorem dX4_isFaithful_38 : decode cX4_isFaithful 38 = .ok (.iconst 1, 1) := by decide +kernel
theorem dX4_isFaithful_39 : decode cX4_isFaithful 39 = .ok (.istore_n 2, 1) := by decide +kernel
theorem dX4_isFaithful_40 : decode cX4_isFaithful 40 = .ok (.iconst 0, 1) := by decide +kernel
theorem dX4_isFaithful_41 : decode cX4_isFaithful 41 = .ok (.istore_n 3, 1) := by decide +kernel
theorem dX4_isFaithful_42 : decode cX4_isFaithful 42 = .ok (.iconst 1, 1) := by decide +kernel
theorem dX4_isFaithful_43 : decode cX4_isFaithful 43 = .ok (.istore 4, 2) := by decide +kernel
theorem dX4_isFaithful_45 : decode cX4_isFaithful 45 = .ok (.iload_n 2, 1) := by decide +kernel
theorem dX4_isFaithful_46 : decode cX4_isFaithful 46 = .ok (.iload_n 3, 1) := by decide +kernel
theorem dX4_isFaithful_47 : decode cX4_isFaithful 47 = .ok (.if_icmp .eq 190, 3) := by decide +kernel
theorem dX4_isFaithful_50 : decode cX4_isFaithful 50 = .ok (.iload 4, 2) := by decide +kernel
theorem dX4_isFaithful_52 : decode cX4_isFaithful 52 = .ok (.ifCond .eq 185, 3) := by decide +kernel
theorem dX4_isFaithful_55 : decode cX4_isFaithful 55 = .ok (.iload_n 2, 1) := by decide +kernel
theorem dX4_isFaithful_56 : decode cX4_isFaithful 56 = .ok (.istore_n 3, 1) := by decide +kernel
theorem dX4_isFaithful_57 : decode cX4_isFaithful 57 = .ok (.iconst 0, 1) := by decide +kernel
theorem dX4_isFaithful_58 : decode cX4_isFaithful 58 = .ok (.istore 5, 2) := by decide +kernel
theorem dX4_isFaithful_60 : decode cX4_isFaithful 60 = .ok (.iload 5, 2) := by decide +kernel
theorem dX4_isFaithful_62 : decode cX4_isFaithful 62 = .ok (.aload_n 0, 1) := by decide +kernel
theorem dX4_isFaithful_63 : decode cX4_isFaithful 63 = .ok (.getfield 9, 3) := by decide +kernel
theorem dX4_isFaithful_66 : decode cX4_isFaithful 66 = .ok (.if_icmp .ge 168, 3) := by decide +kernel
theorem dX4_isFaithful_69 : decode cX4_isFaithful 69 = .ok (.iload 4, 2) := by decide +kernel
theorem dX4_isFaithful_71 : decode cX4_isFaithful 71 = .ok (.ifCond .eq 163, 3) := by decide +kernel
theorem dX4_isFaithful_74 : decode cX4_isFaithful 74 = .ok (.iconst 0, 1) := by decide +kernel
theorem dX4_isFaithful_75 : decode cX4_isFaithful 75 = .ok (.istore 6, 2) := by decide +kernel
theorem dX4_isFaithful_77 : decode cX4_isFaithful 77 = .ok (.iload 6, 2) := by decide +kernel
theorem dX4_isFaithful_79 : decode cX4_isFaithful 79 = .ok (.bipush 6, 2) := by decide +kernel
theorem dX4_isFaithful_81 : decode cX4_isFaithful 81 = .ok (.if_icmp .ge 147, 3) := by decide +kernel
theorem dX4_isFaithful_84 : decode cX4_isFaithful 84 = .ok (.iload_n 3, 1) := by decide +kernel
theorem dX4_isFaithful_85 : decode cX4_isFaithful 85 = .ok (.iload 5, 2) := by decide +kernel
theorem dX4_isFaithful_87 : decode cX4_isFaithful 87 = .ok (.invokestatic 54, 3) := by decide +kernel
theorem dX4_isFaithful_90 : decode cX4_isFaithful 90 = .ok (.ifCond .eq 138, 3) := by decide +kernel
theorem dX4_isFaithful_93 : decode cX4_isFaithful 93 = .ok (.iload 4, 2) := by decide +kernel
theorem dX4_isFaithful_95 : decode cX4_isFaithful 95 = .ok (.ifCond .eq 133, 3) := by decide +kernel
theorem dX4_isFaithful_98 : decode cX4_isFaithful 98 = .ok (.aload_n 0, 1) := by decide +kernel
theorem dX4_isFaithful_99 : decode cX4_isFaithful 99 = .ok (.iload 5, 2) := by decide +kernel
theorem dX4_isFaithful_101 : decode cX4_isFaithful 101 = .ok (.iload 6, 2) := by decide +kernel
theorem dX4_isFaithful_103 : decode cX4_isFaithful 103 = .ok (.invokevirtual 50, 3) := by decide +kernel
theorem dX4_isFaithful_106 : decode cX4_isFaithful 106 = .ok (.istore 7, 2) := by decide +kernel
theorem dX4_isFaithful_108 : decode cX4_isFaithful 108 = .ok (.aload_n 0, 1) := by decide +kernel
theorem dX4_isFaithful_109 : decode cX4_isFaithful 109 = .ok (.aload_n 0, 1) := by decide +kernel
theorem dX4_isFaithful_110 : decode cX4_isFaithful 110 = .ok (.getfield 23, 3) := by decide +kernel
theorem dX4_isFaithful_113 : decode cX4_isFaithful 113 = .ok (.aload_n 1, 1) := by decide +kernel
theorem dX4_isFaithful_114 : decode cX4_isFaithful 114 = .ok (.iload 5, 2) := by decide +kernel
theorem dX4_isFaithful_116 : decode cX4_isFaithful 116 = .ok (.iaload, 1) := by decide +kernel
theorem dX4_isFaithful_117 : decode cX4_isFaithful 117 = .ok (.iaload, 1) := by decide +kernel
theorem dX4_isFaithful_118 : decode cX4_isFaithful 118 = .ok (.iload 6, 2) := by decide +kernel
theorem dX4_isFaithful_120 : decode cX4_isFaithful 120 = .ok (.invokevirtual 120, 3) := by decide +kernel
theorem dX4_isFaithful_123 : decode cX4_isFaithful 123 = .ok (.istore 8, 2) := by decide +kernel
theorem dX4_isFaithful_125 : decode cX4_isFaithful 125 = .ok (.iload 7, 2) := by decide +kernel
theorem dX4_isFaithful_127 : decode cX4_isFaithful 127 = .ok (.iconst (-1), 1) := by decide +kernel
theorem dX4_isFaithful_128 : decode cX4_isFaithful 128 = .ok (.if_icmp .ne 7, 3) := by decide +kernel
theorem dX4_isFaithful_131 : decode cX4_isFaithful 131 = .ok (.iconst 1, 1) := by decide +kernel
theorem dX4_isFaithful_132 : decode cX4_isFaithful 132 = .ok (.goto 4, 3) := by decide +kernel
theorem dX4_isFaithful_135 : decode cX4_isFaithful 135 = .ok (.iconst 0, 1) := by decide +kernel
theorem dX4_isFaithful_136 : decode cX4_isFaithful 136 = .ok (.iload 8, 2) := by decide +kernel
theorem dX4_isFaithful_138 : decode cX4_isFaithful 138 = .ok (.iconst (-1), 1) := by decide +kernel
theorem dX4_isFaithful_139 : decode cX4_isFaithful 139 = .ok (.if_icmp .ne 7, 3) := by decide +kernel
theorem dX4_isFaithful_142 : decode cX4_isFaithful 142 = .ok (.iconst 1, 1) := by decide +kernel
theorem dX4_isFaithful_143 : decode cX4_isFaithful 143 = .ok (.goto 4, 3) := by decide +kernel
theorem dX4_isFaithful_146 : decode cX4_isFaithful 146 = .ok (.iconst 0, 1) := by decide +kernel
theorem dX4_isFaithful_147 : decode cX4_isFaithful 147 = .ok (.if_icmp .ne 7, 3) := by decide +kernel
theorem dX4_isFaithful_150 : decode cX4_isFaithful 150 = .ok (.iconst 1, 1) := by decide +kernel
theorem dX4_isFaithful_151 : decode cX4_isFaithful 151 = .ok (.goto 4, 3) := by decide +kernel
theorem dX4_isFaithful_154 : decode cX4_isFaithful 154 = .ok (.iconst 0, 1) := by decide +kernel
theorem dX4_isFaithful_155 : decode cX4_isFaithful 155 = .ok (.istore 4, 2) := by decide +kernel
theorem dX4_isFaithful_157 : decode cX4_isFaithful 157 = .ok (.iload 4, 2) := by decide +kernel
theorem dX4_isFaithful_159 : decode cX4_isFaithful 159 = .ok (.ifCond .eq 63, 3) := by decide +kernel
theorem dX4_isFaithful_162 : decode cX4_isFaithful 162 = .ok (.iload 7, 2) := by decide +kernel
theorem dX4_isFaithful_164 : decode cX4_isFaithful 164 = .ok (.iconst (-1), 1) := by decide +kernel
theorem dX4_isFaithful_165 : decode cX4_isFaithful 165 = .ok (.if_icmp .ne 6, 3) := by decide +kernel
theorem dX4_isFaithful_168 : decode cX4_isFaithful 168 = .ok (.goto 54, 3) := by decide +kernel
theorem dX4_isFaithful_171 : decode cX4_isFaithful 171 = .ok (.aload_n 0, 1) := by decide +kernel
theorem dX4_isFaithful_172 : decode cX4_isFaithful 172 = .ok (.iload 8, 2) := by decide +kernel
theorem dX4_isFaithful_174 : decode cX4_isFaithful 174 = .ok (.invokevirtual 126, 3) := by decide +kernel
theorem dX4_isFaithful_177 : decode cX4_isFaithful 177 = .ok (.istore 9, 2) := by decide +kernel
theorem dX4_isFaithful_179 : decode cX4_isFaithful 179 = .ok (.iload 9, 2) := by decide +kernel
theorem dX4_isFaithful_181 : decode cX4_isFaithful 181 = .ok (.iconst (-1), 1) := by decide +kernel
theorem dX4_isFaithful_182 : decode cX4_isFaithful 182 = .ok (.if_icmp .eq 24, 3) := by decide +kernel
theorem dX4_isFaithful_185 : decode cX4_isFaithful 185 = .ok (.aload_n 1, 1) := by decide +kernel
theorem dX4_isFaithful_186 : decode cX4_isFaithful 186 = .ok (.iload 7, 2) := by decide +kernel
theorem dX4_isFaithful_188 : decode cX4_isFaithful 188 = .ok (.iaload, 1) := by decide +kernel
theorem dX4_isFaithful_189 : decode cX4_isFaithful 189 = .ok (.iconst (-1), 1) := by decide +kernel
theorem dX4_isFaithful_190 : decode cX4_isFaithful 190 = .ok (.if_icmp .eq 12, 3) := by decide +kernel
theorem dX4_isFaithful_193 : decode cX4_isFaithful 193 = .ok (.aload_n 1, 1) := by decide +kernel
theorem dX4_isFaithful_194 : decode cX4_isFaithful 194 = .ok (.iload 7, 2) := by decide +kernel
theorem dX4_isFaithful_196 : decode cX4_isFaithful 196 = .ok (.iaload, 1) := by decide +kernel
theorem dX4_isFaithful_197 : decode cX4_isFaithful 197 = .ok (.iload 9, 2) := by decide +kernel
theorem dX4_isFaithful_199 : decode cX4_isFaithful 199 = .ok (.if_icmp .ne 7, 3) := by decide +kernel
theorem dX4_isFaithful_202 : decode cX4_isFaithful 202 = .ok (.iconst 1, 1) := by decide +kernel
theorem dX4_isFaithful_203 : decode cX4_isFaithful 203 = .ok (.goto 4, 3) := by decide +kernel
theorem dX4_isFaithful_206 : decode cX4_isFaithful 206 = .ok (.iconst 0, 1) := by decide +kernel
theorem dX4_isFaithful_207 : decode cX4_isFaithful 207 = .ok (.istore 4, 2) := by decide +kernel
theorem dX4_isFaithful_209 : decode cX4_isFaithful 209 = .ok (.aload_n 1, 1) := by decide +kernel
theorem dX4_isFaithful_210 : decode cX4_isFaithful 210 = .ok (.iload 7, 2) := by decide +kernel
theorem dX4_isFaithful_212 : decode cX4_isFaithful 212 = .ok (.iload 9, 2) := by decide +kernel
theorem dX4_isFaithful_214 : decode cX4_isFaithful 214 = .ok (.iastore, 1) := by decide +kernel
theorem dX4_isFaithful_215 : decode cX4_isFaithful 215 = .ok (.iload_n 2, 1) := by decide +kernel
theorem dX4_isFaithful_216 : decode cX4_isFaithful 216 = .ok (.iconst 1, 1) := by decide +kernel
theorem dX4_isFaithful_217 : decode cX4_isFaithful 217 = .ok (.iload 7, 2) := by decide +kernel
theorem dX4_isFaithful_219 : decode cX4_isFaithful 219 = .ok (.ishl, 1) := by decide +kernel
theorem dX4_isFaithful_220 : decode cX4_isFaithful 220 = .ok (.ior, 1) := by decide +kernel
theorem dX4_isFaithful_221 : decode cX4_isFaithful 221 = .ok (.istore_n 2, 1) := by decide +kernel
theorem dX4_isFaithful_222 : decode cX4_isFaithful 222 = .ok (.iinc 6 1, 3) := by decide +kernel
theorem dX4_isFaithful_225 : decode cX4_isFaithful 225 = .ok (.goto (-148), 3) := by decide +kernel
theorem dX4_isFaithful_228 : decode cX4_isFaithful 228 = .ok (.iinc 5 1, 3) := by decide +kernel
theorem dX4_isFaithful_231 : decode cX4_isFaithful 231 = .ok (.goto (-171), 3) := by decide +kernel
theorem dX4_isFaithful_234 : decode cX4_isFaithful 234 = .ok (.goto (-189), 3) := by decide +kernel
theorem dX4_isFaithful_237 : decode cX4_isFaithful 237 = .ok (.iconst 0, 1) := by decide +kernel
theorem dX4_isFaithful_238 : decode cX4_isFaithful 238 = .ok (.istore 5, 2) := by decide +kernel
theorem dX4_isFaithful_240 : decode cX4_isFaithful 240 = .ok (.iconst 0, 1) := by decide +kernel
theorem dX4_isFaithful_241 : decode cX4_isFaithful 241 = .ok (.istore 6, 2) := by decide +kernel
theorem dX4_isFaithful_243 : decode cX4_isFaithful 243 = .ok (.iload 6, 2) := by decide +kernel
theorem dX4_isFaithful_245 : decode cX4_isFaithful 245 = .ok (.aload_n 0, 1) := by decide +kernel
theorem dX4_isFaithful_246 : decode cX4_isFaithful 246 = .ok (.getfield 9, 3) := by decide +kernel
theorem dX4_isFaithful_249 : decode cX4_isFaithful 249 = .ok (.if_icmp .ge 77, 3) := by decide +kernel
theorem dX4_isFaithful_252 : decode cX4_isFaithful 252 = .ok (.iload 4, 2) := by decide +kernel
theorem dX4_isFaithful_254 : decode cX4_isFaithful 254 = .ok (.ifCond .eq 72, 3) := by decide +kernel
theorem dX4_isFaithful_257 : decode cX4_isFaithful 257 = .ok (.iload_n 2, 1) := by decide +kernel
theorem dX4_isFaithful_258 : decode cX4_isFaithful 258 = .ok (.iload 6, 2) := by decide +kernel
theorem dX4_isFaithful_260 : decode cX4_isFaithful 260 = .ok (.invokestatic 54, 3) := by decide +kernel
theorem dX4_isFaithful_263 : decode cX4_isFaithful 263 = .ok (.ifCond .ne 6, 3) := by decide +kernel
theorem dX4_isFaithful_266 : decode cX4_isFaithful 266 = .ok (.goto 54, 3) := by decide +kernel
theorem dX4_isFaithful_269 : decode cX4_isFaithful 269 = .ok (.iinc 5 1, 3) := by decide +kernel
theorem dX4_isFaithful_272 : decode cX4_isFaithful 272 = .ok (.iconst 0, 1) := by decide +kernel
theorem dX4_isFaithful_273 : decode cX4_isFaithful 273 = .ok (.istore 7, 2) := by decide +kernel
theorem dX4_isFaithful_275 : decode cX4_isFaithful 275 = .ok (.iload 7, 2) := by decide +kernel
theorem dX4_isFaithful_277 : decode cX4_isFaithful 277 = .ok (.iload 6, 2) := by decide +kernel
theorem dX4_isFaithful_279 : decode cX4_isFaithful 279 = .ok (.if_icmp .ge 41, 3) := by decide +kernel
theorem dX4_isFaithful_282 : decode cX4_isFaithful 282 = .ok (.iload 4, 2) := by decide +kernel
theorem dX4_isFaithful_284 : decode cX4_isFaithful 284 = .ok (.ifCond .eq 27, 3) := by decide +kernel
theorem dX4_isFaithful_287 : decode cX4_isFaithful 287 = .ok (.iload_n 2, 1) := by decide +kernel
theorem dX4_isFaithful_288 : decode cX4_isFaithful 288 = .ok (.iload 7, 2) := by decide +kernel
theorem dX4_isFaithful_290 : decode cX4_isFaithful 290 = .ok (.invokestatic 54, 3) := by decide +kernel
theorem dX4_isFaithful_293 : decode cX4_isFaithful 293 = .ok (.ifCond .eq 14, 3) := by decide +kernel
theorem dX4_isFaithful_296 : decode cX4_isFaithful 296 = .ok (.aload_n 1, 1) := by decide +kernel
theorem dX4_isFaithful_297 : decode cX4_isFaithful 297 = .ok (.iload 7, 2) := by decide +kernel
theorem dX4_isFaithful_299 : decode cX4_isFaithful 299 = .ok (.iaload, 1) := by decide +kernel
theorem dX4_isFaithful_300 : decode cX4_isFaithful 300 = .ok (.aload_n 1, 1) := by decide +kernel
theorem dX4_isFaithful_301 : decode cX4_isFaithful 301 = .ok (.iload 6, 2) := by decide +kernel
theorem dX4_isFaithful_303 : decode cX4_isFaithful 303 = .ok (.iaload, 1) := by decide +kernel
theorem dX4_isFaithful_304 : decode cX4_isFaithful 304 = .ok (.if_icmp .eq 7, 3) := by decide +kernel
theorem dX4_isFaithful_307 : decode cX4_isFaithful 307 = .ok (.iconst 1, 1) := by decide +kernel
theorem dX4_isFaithful_308 : decode cX4_isFaithful 308 = .ok (.goto 4, 3) := by decide +kernel
theorem dX4_isFaithful_311 : decode cX4_isFaithful 311 = .ok (.iconst 0, 1) := by decide +kernel
theorem dX4_isFaithful_312 : decode cX4_isFaithful 312 = .ok (.istore 4, 2) := by decide +kernel
theorem dX4_isFaithful_314 : decode cX4_isFaithful 314 = .ok (.iinc 7 1, 3) := by decide +kernel
theorem dX4_isFaithful_317 : decode cX4_isFaithful 317 = .ok (.goto (-42), 3) := by decide +kernel
theorem dX4_isFaithful_320 : decode cX4_isFaithful 320 = .ok (.iinc 6 1, 3) := by decide +kernel
theorem dX4_isFaithful_323 : decode cX4_isFaithful 323 = .ok (.goto (-80), 3) := by decide +kernel
theorem dX4_isFaithful_326 : decode cX4_isFaithful 326 = .ok (.iload 4, 2) := by decide +kernel
theorem dX4_isFaithful_328 : decode cX4_isFaithful 328 = .ok (.ifCond .eq 16, 3) := by decide +kernel
theorem dX4_isFaithful_331 : decode cX4_isFaithful 331 = .ok (.iload 5, 2) := by decide +kernel
theorem dX4_isFaithful_333 : decode cX4_isFaithful 333 = .ok (.aload_n 0, 1) := by decide +kernel
theorem dX4_isFaithful_334 : decode cX4_isFaithful 334 = .ok (.getfield 123, 3) := by decide +kernel
theorem dX4_isFaithful_337 : decode cX4_isFaithful 337 = .ok (.if_icmp .ne 7, 3) := by decide +kernel
theorem dX4_isFaithful_340 : decode cX4_isFaithful 340 = .ok (.iconst 1, 1) := by decide +kernel
theorem dX4_isFaithful_341 : decode cX4_isFaithful 341 = .ok (.goto 4, 3) := by decide +kernel
theorem dX4_isFaithful_344 : decode cX4_isFaithful 344 = .ok (.iconst 0, 1) := by decide +kernel
theorem dX4_isFaithful_345 : decode cX4_isFaithful 345 = .ok (.ireturn, 1) := by decide +kernel
set_option maxRecDepth 20000 in
theorem ggX4_digest_X4_know : GoodIn wsX4_digest wsX4_know := goodIn_r _ [14, 15, 5, 3, 6, 16, 17, 18, 13, 19, 20, 21, 22, 23, 24, 25, 26, 27, 28, 29, 30, 31, 32, 33, 34, 35, 36, 37, 38, 39, 40, 41, 42, 43, 44, 45, 46, 47] (by decide +kernel) (by decide +kernel)
set_option maxRecDepth 20000 in
theorem gX4_digest_X4_know : GoodIn wsX4_digest (wsV RX4 76 RX4 yX4_know wsX4_know) := goodIn_app (goodIn_of _ (by decide +kernel)) ggX4_digest_X4_know
set_option maxRecDepth 20000 in
theorem ggX4_digest_X4_to : GoodIn wsX4_digest wsX4_to := goodIn_r _ [31, 32, 36, 37, 38, 39, 40, 41, 42, 43, 44, 45, 46, 47] (by decide +kernel) (by decide +kernel)
set_option maxRecDepth 20000 in
theorem gX4_digest_X4_to : GoodIn wsX4_digest (wsV RX4 50 RX4 yX4_to wsX4_to) := goodIn_app (goodIn_of _ (by decide +kernel)) ggX4_digest_X4_to
theorem dX4_digest_0 : decode cX4_digest 0 = .ok (.aload_n 0, 1) := by decide +kernel
theorem dX4_digest_1 : decode cX4_digest 1 = .ok (.iconst 0, 1) := by decide +kernel
theorem dX4_digest_2 : decode cX4_digest 2 = .ok (.putfield 26, 3) := by decide +kernel
theorem dX4_digest_5 : decode cX4_digest 5 = .ok (.aload_n 0, 1) := by decide +kernel
theorem dX4_digest_6 : decode cX4_digest 6 = .ok (.invokevirtual 76, 3) := by decide +kernel
theorem dX4_digest_9 : decode cX4_digest 9 = .ok (.ldc2_w 129, 3) := by decide +kernel
theorem dX4_digest_12 : decode cX4_digest 12 = .ok (.aload_n 0, 1) := by decide +kernel
theorem dX4_digest_13 : decode cX4_digest 13 = .ok (.getfield 9, 3) := by decide +kernel
theorem dX4_digest_16 : decode cX4_digest 16 = .ok (.i2l, 1) := by decide +kernel
theorem dX4_digest_17 : decode cX4_digest 17 = .ok (.ladd, 1) := by decide +kernel
theorem dX4_digest_18 : decode cX4_digest 18 = .ok (.lstore_n 1, 1) := by decide +kernel
theorem dX4_digest_19 : decode cX4_digest 19 = .ok (.iconst 0, 1) := by decide +kernel
theorem dX4_digest_20 : decode cX4_digest 20 = .ok (.istore_n 3, 1) := by decide +kernel
theorem dX4_digest_21 : decode cX4_digest 21 = .ok (.iload_n 3, 1) := by decide +kernel
theorem dX4_digest_22 : decode cX4_digest 22 = .ok (.aload_n 0, 1) := by decide +kernel
theorem dX4_digest_23 : decode cX4_digest 23 = .ok (.getfield 9, 3) := by decide +kernel
theorem dX4_digest_26 : decode cX4_digest 26 = .ok (.if_icmp .ge 40, 3) := by decide +kernel
theorem dX4_digest_29 : decode cX4_digest 29 = .ok (.iconst 0, 1) := by decide +kernel
theorem dX4_digest_30 : decode cX4_digest 30 = .ok (.istore 4, 2) := by decide +kernel
theorem dX4_digest_32 : decode cX4_digest 32 = .ok (.iload 4, 2) := by decide +kernel
theorem dX4_digest_34 : decode cX4_digest 34 = .ok (.bipush 6, 2) := by decide +kernel
theorem dX4_digest_36 : decode cX4_digest 36 = .ok (.if_icmp .ge 24, 3) := by decide +kernel
theorem dX4_digest_39 : decode cX4_digest 39 = .ok (.lload_n 1, 1) := by decide +kernel
theorem dX4_digest_40 : decode cX4_digest 40 = .ok (.ldc2_w 131, 3) := by decide +kernel
theorem dX4_digest_43 : decode cX4_digest 43 = .ok (.lmul, 1) := by decide +kernel
theorem dX4_digest_44 : decode cX4_digest 44 = .ok (.aload_n 0, 1) := by decide +kernel
theorem dX4_digest_45 : decode cX4_digest 45 = .ok (.iload_n 3, 1) := by decide +kernel
theorem dX4_digest_46 : decode cX4_digest 46 = .ok (.iload 4, 2) := by decide +kernel
theorem dX4_digest_48 : decode cX4_digest 48 = .ok (.invokevirtual 50, 3) := by decide +kernel
theorem dX4_digest_51 : decode cX4_digest 51 = .ok (.i2l, 1) := by decide +kernel
theorem dX4_digest_52 : decode cX4_digest 52 = .ok (.ladd, 1) := by decide +kernel
theorem dX4_digest_53 : decode cX4_digest 53 = .ok (.lstore_n 1, 1) := by decide +kernel
theorem dX4_digest_54 : decode cX4_digest 54 = .ok (.iinc 4 1, 3) := by decide +kernel
theorem dX4_digest_57 : decode cX4_digest 57 = .ok (.goto (-25), 3) := by decide +kernel
theorem dX4_digest_60 : decode cX4_digest 60 = .ok (.iinc 3 1, 3) := by decide +kernel
theorem dX4_digest_63 : decode cX4_digest 63 = .ok (.goto (-42), 3) := by decide +kernel
theorem dX4_digest_66 : decode cX4_digest 66 = .ok (.lload_n 1, 1) := by decide +kernel
theorem dX4_digest_67 : decode cX4_digest 67 = .ok (.ldc2_w 131, 3) := by decide +kernel
theorem dX4_digest_70 : decode cX4_digest 70 = .ok (.lmul, 1) := by decide +kernel
theorem dX4_digest_71 : decode cX4_digest 71 = .ok (.aload_n 0, 1) := by decide +kernel
theorem dX4_digest_72 : decode cX4_digest 72 = .ok (.getfield 67, 3) := by decide +kernel
theorem dX4_digest_75 : decode cX4_digest 75 = .ok (.i2l, 1) := by decide +kernel
theorem dX4_digest_76 : decode cX4_digest 76 = .ok (.ladd, 1) := by decide +kernel
theorem dX4_digest_77 : decode cX4_digest 77 = .ok (.lstore_n 1, 1) := by decide +kernel
theorem dX4_digest_78 : decode cX4_digest 78 = .ok (.iconst 0, 1) := by decide +kernel
theorem dX4_digest_79 : decode cX4_digest 79 = .ok (.istore_n 3, 1) := by decide +kernel
theorem dX4_digest_80 : decode cX4_digest 80 = .ok (.iload_n 3, 1) := by decide +kernel
theorem dX4_digest_81 : decode cX4_digest 81 = .ok (.aload_n 0, 1) := by decide +kernel
theorem dX4_digest_82 : decode cX4_digest 82 = .ok (.getfield 67, 3) := by decide +kernel
theorem dX4_digest_85 : decode cX4_digest 85 = .ok (.if_icmp .ge 23, 3) := by decide +kernel
theorem dX4_digest_88 : decode cX4_digest 88 = .ok (.lload_n 1, 1) := by decide +kernel
theorem dX4_digest_89 : decode cX4_digest 89 = .ok (.ldc2_w 131, 3) := by decide +kernel
theorem dX4_digest_92 : decode cX4_digest 92 = .ok (.lmul, 1) := by decide +kernel
theorem dX4_digest_93 : decode cX4_digest 93 = .ok (.aload_n 0, 1) := by decide +kernel
theorem dX4_digest_94 : decode cX4_digest 94 = .ok (.getfield 17, 3) := by decide +kernel
theorem dX4_digest_97 : decode cX4_digest 97 = .ok (.iload_n 3, 1) := by decide +kernel
theorem dX4_digest_98 : decode cX4_digest 98 = .ok (.iaload, 1) := by decide +kernel
theorem dX4_digest_99 : decode cX4_digest 99 = .ok (.i2l, 1) := by decide +kernel
theorem dX4_digest_100 : decode cX4_digest 100 = .ok (.ladd, 1) := by decide +kernel
theorem dX4_digest_101 : decode cX4_digest 101 = .ok (.lstore_n 1, 1) := by decide +kernel
theorem dX4_digest_102 : decode cX4_digest 102 = .ok (.iinc 3 1, 3) := by decide +kernel
theorem dX4_digest_105 : decode cX4_digest 105 = .ok (.goto (-25), 3) := by decide +kernel
theorem dX4_digest_108 : decode cX4_digest 108 = .ok (.aload_n 0, 1) := by decide +kernel
theorem dX4_digest_109 : decode cX4_digest 109 = .ok (.getfield 33, 3) := by decide +kernel
theorem dX4_digest_112 : decode cX4_digest 112 = .ok (.ifCond .eq 27, 3) := by decide +kernel
theorem dX4_digest_115 : decode cX4_digest 115 = .ok (.lload_n 1, 1) := by decide +kernel
theorem dX4_digest_116 : decode cX4_digest 116 = .ok (.ldc2_w 131, 3) := by decide +kernel
theorem dX4_digest_119 : decode cX4_digest 119 = .ok (.lmul, 1) := by decide +kernel
theorem dX4_digest_120 : decode cX4_digest 120 = .ok (.aload_n 0, 1) := by decide +kernel
theorem dX4_digest_121 : decode cX4_digest 121 = .ok (.getfield 102, 3) := by decide +kernel
theorem dX4_digest_124 : decode cX4_digest 124 = .ok (.i2l, 1) := by decide +kernel
theorem dX4_digest_125 : decode cX4_digest 125 = .ok (.ladd, 1) := by decide +kernel
theorem dX4_digest_126 : decode cX4_digest 126 = .ok (.ldc2_w 131, 3) := by decide +kernel
theorem dX4_digest_129 : decode cX4_digest 129 = .ok (.lmul, 1) := by decide +kernel
theorem dX4_digest_130 : decode cX4_digest 130 = .ok (.aload_n 0, 1) := by decide +kernel
theorem dX4_digest_131 : decode cX4_digest 131 = .ok (.getfield 111, 3) := by decide +kernel
theorem dX4_digest_134 : decode cX4_digest 134 = .ok (.i2l, 1) := by decide +kernel
theorem dX4_digest_135 : decode cX4_digest 135 = .ok (.ladd, 1) := by decide +kernel
theorem dX4_digest_136 : decode cX4_digest 136 = .ok (.goto 4, 3) := by decide +kernel
theorem dX4_digest_139 : decode cX4_digest 139 = .ok (.lload_n 1, 1) := by decide +kernel
theorem dX4_digest_140 : decode cX4_digest 140 = .ok (.lreturn, 1) := by decide +kernel
theorem dJ6_bitCount_0f7a4_0 : decode cJ6_bitCount_0f7a4 0 = .ok (.iload_n 0, 1) := by decide +kernel
theorem dJ6_bitCount_0f7a4_1 : decode cJ6_bitCount_0f7a4 1 = .ok (.iload_n 0, 1) := by decide +kernel
theorem dJ6_bitCount_0f7a4_2 : decode cJ6_bitCount_0f7a4 2 = .ok (.iconst 1, 1) := by decide +kernel
theorem dJ6_bitCount_0f7a4_3 : decode cJ6_bitCount_0f7a4 3 = .ok (.iushr, 1) := by decide +kernel
theorem dJ6_bitCount_0f7a4_4 : decode cJ6_bitCount_0f7a4 4 = .ok (.ldc_w 265, 3) := by decide +kernel
theorem dJ6_bitCount_0f7a4_7 : decode cJ6_bitCount_0f7a4 7 = .ok (.iand, 1) := by decide +kernel
theorem dJ6_bitCount_0f7a4_8 : decode cJ6_bitCount_0f7a4 8 = .ok (.isub, 1) := by decide +kernel
theorem dJ6_bitCount_0f7a4_9 : decode cJ6_bitCount_0f7a4 9 = .ok (.istore_n 0, 1) := by decide +kernel
theorem dJ6_bitCount_0f7a4_10 : decode cJ6_bitCount_0f7a4 10 = .ok (.iload_n 0, 1) := by decide +kernel
theorem dJ6_bitCount_0f7a4_11 : decode cJ6_bitCount_0f7a4 11 = .ok (.ldc_w 266, 3) := by decide +kernel
theorem dJ6_bitCount_0f7a4_14 : decode cJ6_bitCount_0f7a4 14 = .ok (.iand, 1) := by decide +kernel
theorem dJ6_bitCount_0f7a4_15 : decode cJ6_bitCount_0f7a4 15 = .ok (.iload_n 0, 1) := by decide +kernel
theorem dJ6_bitCount_0f7a4_16 : decode cJ6_bitCount_0f7a4 16 = .ok (.iconst 2, 1) := by decide +kernel
theorem dJ6_bitCount_0f7a4_17 : decode cJ6_bitCount_0f7a4 17 = .ok (.iushr, 1) := by decide +kernel
theorem dJ6_bitCount_0f7a4_18 : decode cJ6_bitCount_0f7a4 18 = .ok (.ldc_w 266, 3) := by decide +kernel
theorem dJ6_bitCount_0f7a4_21 : decode cJ6_bitCount_0f7a4 21 = .ok (.iand, 1) := by decide +kernel
theorem dJ6_bitCount_0f7a4_22 : decode cJ6_bitCount_0f7a4 22 = .ok (.iadd, 1) := by decide +kernel
theorem dJ6_bitCount_0f7a4_23 : decode cJ6_bitCount_0f7a4 23 = .ok (.istore_n 0, 1) := by decide +kernel
theorem dJ6_bitCount_0f7a4_24 : decode cJ6_bitCount_0f7a4 24 = .ok (.iload_n 0, 1) := by decide +kernel
theorem dJ6_bitCount_0f7a4_25 : decode cJ6_bitCount_0f7a4 25 = .ok (.iload_n 0, 1) := by decide +kernel
theorem dJ6_bitCount_0f7a4_26 : decode cJ6_bitCount_0f7a4 26 = .ok (.iconst 4, 1) := by decide +kernel
theorem dJ6_bitCount_0f7a4_27 : decode cJ6_bitCount_0f7a4 27 = .ok (.iushr, 1) := by decide +kernel
theorem dJ6_bitCount_0f7a4_28 : decode cJ6_bitCount_0f7a4 28 = .ok (.iadd, 1) := by decide +kernel
theorem dJ6_bitCount_0f7a4_29 : decode cJ6_bitCount_0f7a4 29 = .ok (.ldc_w 267, 3) := by decide +kernel
theorem dJ6_bitCount_0f7a4_32 : decode cJ6_bitCount_0f7a4 32 = .ok (.iand, 1) := by decide +kernel
theorem dJ6_bitCount_0f7a4_33 : decode cJ6_bitCount_0f7a4 33 = .ok (.istore_n 0, 1) := by decide +kernel
theorem dJ6_bitCount_0f7a4_34 : decode cJ6_bitCount_0f7a4 34 = .ok (.iload_n 0, 1) := by decide +kernel
theorem dJ6_bitCount_0f7a4_35 : decode cJ6_bitCount_0f7a4 35 = .ok (.iload_n 0, 1) := by decide +kernel
theorem dJ6_bitCount_0f7a4_36 : decode cJ6_bitCount_0f7a4 36 = .ok (.bipush 8, 2) := by decide +kernel
theorem dJ6_bitCount_0f7a4_38 : decode cJ6_bitCount_0f7a4 38 = .ok (.iushr, 1) := by decide +kernel
theorem dJ6_bitCount_0f7a4_39 : decode cJ6_bitCount_0f7a4 39 = .ok (.iadd, 1) := by decide +kernel
theorem dJ6_bitCount_0f7a4_40 : decode cJ6_bitCount_0f7a4 40 = .ok (.istore_n 0, 1) := by decide +kernel
theorem dJ6_bitCount_0f7a4_41 : decode cJ6_bitCount_0f7a4 41 = .ok (.iload_n 0, 1) := by decide +kernel
theorem dJ6_bitCount_0f7a4_42 : decode cJ6_bitCount_0f7a4 42 = .ok (.iload_n 0, 1) := by decide +kernel
theorem dJ6_bitCount_0f7a4_43 : decode cJ6_bitCount_0f7a4 43 = .ok (.bipush 16, 2) := by decide +kernel
theorem dJ6_bitCount_0f7a4_45 : decode cJ6_bitCount_0f7a4 45 = .ok (.iushr, 1) := by decide +kernel
theorem dJ6_bitCount_0f7a4_46 : decode cJ6_bitCount_0f7a4 46 = .ok (.iadd, 1) := by decide +kernel
theorem dJ6_bitCount_0f7a4_47 : decode cJ6_bitCount_0f7a4 47 = .ok (.istore_n 0, 1) := by decide +kernel
theorem dJ6_bitCount_0f7a4_48 : decode cJ6_bitCount_0f7a4 48 = .ok (.iload_n 0, 1) := by decide +kernel
theorem dJ6_bitCount_0f7a4_49 : decode cJ6_bitCount_0f7a4 49 = .ok (.bipush 63, 2) := by decide +kernel
theorem dJ6_bitCount_0f7a4_51 : decode cJ6_bitCount_0f7a4 51 = .ok (.iand, 1) := by decide +kernel
theorem dJ6_bitCount_0f7a4_52 : decode cJ6_bitCount_0f7a4 52 = .ok (.ireturn, 1) := by decide +kernel
set_option maxRecDepth 20000 in
theorem ggL_addState_X3_addState : GoodIn wsL_addState wsX3_addState := goodIn_ca (goodIn_r _ [6, 7, 8, 9, 10, 11, 12, 5, 13, 14, 15, 16, 17, 18, 19, 20, 21, 22, 23, 24, 25, 26, 27, 28, 29, 30, 31, 32, 33, 34, 35, 36, 37, 38] (by decide +kernel) (by decide +kernel)) (goodIn_sub (fun _ h => List.mem_cons_of_mem _ (List.mem_append_right _ h)) (by decide +kernel))
set_option maxRecDepth 20000 in
theorem gL_addState_X3_addState : GoodIn wsL_addState (wsV RL 7 RX3 yX3_addState wsX3_addState) := goodIn_app (goodIn_of _ (by decide +kernel)) ggL_addState_X3_addState
theorem dL_addState_0 : decode cL_addState 0 = .ok (.aload_n 1, 1) := by decide +kernel
theorem dL_addState_1 : decode cL_addState 1 = .ok (.iconst 0, 1) := by decide +kernel
theorem dL_addState_2 : decode cL_addState 2 = .ok (.aload_n 0, 1) := by decide +kernel
theorem dL_addState_3 : decode cL_addState 3 = .ok (.invokevirtual 7, 3) := by decide +kernel
theorem dL_addState_6 : decode cL_addState 6 = .ok (.i2l, 1) := by decide +kernel
theorem dL_addState_7 : decode cL_addState 7 = .ok (.lastore, 1) := by decide +kernel
theorem dL_addState_8 : decode cL_addState 8 = .ok (.goto 6, 3) := by decide +kernel
theorem dL_addState_11 : decode cL_addState 11 = .ok (.astore_n 2, 1) := by decide +kernel
theorem dL_addState_12 : decode cL_addState 12 = .ok (.iconst 1, 1) := by decide +kernel
theorem dL_addState_13 : decode cL_addState 13 = .ok (.ireturn, 1) := by decide +kernel
theorem dL_addState_14 : decode cL_addState 14 = .ok (.iconst 0, 1) := by decide +kernel
theorem dL_addState_15 : decode cL_addState 15 = .ok (.ireturn, 1) := by decide +kernel
set_option maxRecDepth 20000 in
theorem ggL_step_X3_step : GoodIn wsL_step wsX3_step := goodIn_ca (goodIn_r _ [6, 7, 8, 9, 10, 5, 11, 12, 13, 14, 15, 16, 17, 18, 19, 20, 21, 22, 23, 24, 25, 26, 27, 28, 29, 30, 31, 32, 33, 34, 35, 36, 37, 38, 39, 40, 41, 42, 43, 44, 45, 46, 47, 48, 49, 50, 51, 52, 53, 54, 55, 56, 57, 58, 59, 60, 61, 62, 63, 64, 65, 66, 67, 68, 69, 70, 71, 72, 73, 74, 75] (by decide +kernel) (by decide +kernel)) (goodIn_sub (fun _ h => List.mem_cons_of_mem _ (List.mem_append_right _ h)) (by decide +kernel))
set_option maxRecDepth 20000 in
theorem gL_step_X3_step : GoodIn wsL_step (wsV RL 15 RX3 yX3_step wsX3_step) := goodIn_app (goodIn_of _ (by decide +kernel)) ggL_step_X3_step
theorem dL_step_0 : decode cL_step 0 = .ok (.aload 4, 2) := by decide +kernel
theorem dL_step_2 : decode cL_step 2 = .ok (.iconst 0, 1) := by decide +kernel
theorem dL_step_3 : decode cL_step 3 = .ok (.aload_n 0, 1) := by decide +kernel
theorem dL_step_4 : decode cL_step 4 = .ok (.iload_n 1, 1) := by decide +kernel
theorem dL_step_5 : decode cL_step 5 = .ok (.iload_n 2, 1) := by decide +kernel
theorem dL_step_6 : decode cL_step 6 = .ok (.iload_n 3, 1) := by decide +kernel
theorem dL_step_7 : decode cL_step 7 = .ok (.invokevirtual 15, 3) := by decide +kernel
theorem dL_step_10 : decode cL_step 10 = .ok (.i2l, 1) := by decide +kernel
theorem dL_step_11 : decode cL_step 11 = .ok (.lastore, 1) := by decide +kernel
theorem dL_step_12 : decode cL_step 12 = .ok (.goto 7, 3) := by decide +kernel
theorem dL_step_15 : decode cL_step 15 = .ok (.astore 5, 2) := by decide +kernel
theorem dL_step_17 : decode cL_step 17 = .ok (.iconst 1, 1) := by decide +kernel
theorem dL_step_18 : decode cL_step 18 = .ok (.ireturn, 1) := by decide +kernel
theorem dL_step_19 : decode cL_step 19 = .ok (.iconst 0, 1) := by decide +kernel
theorem dL_step_20 : decode cL_step 20 = .ok (.ireturn, 1) := by decide +kernel
set_option maxRecDepth 20000 in
theorem ggL_unstep_X3_unstep : GoodIn wsL_unstep wsX3_unstep := goodIn_ca (goodIn_r _ [6, 7, 8, 9, 10, 5, 11, 12, 13, 14, 15, 16, 17, 18, 19, 20, 21, 22, 23, 24, 25, 26, 27, 28, 29, 30, 31, 32, 33, 34, 35, 36, 37, 38, 39, 40, 41, 42, 43, 44, 45, 46, 47, 48, 49, 50, 51, 52, 53, 54, 55, 56, 57, 58, 59, 60, 61, 62, 63, 64, 65, 66, 67, 68, 69, 70, 71, 72, 73, 74, 75] (by decide +kernel) (by decide +kernel)) (goodIn_sub (fun _ h => List.mem_cons_of_mem _ (List.mem_append_right _ h)) (by decide +kernel))
set_option maxRecDepth 20000 in
theorem gL_unstep_X3_unstep : GoodIn wsL_unstep (wsV RL 21 RX3 yX3_unstep wsX3_unstep) := goodIn_app (goodIn_of _ (by decide +kernel)) ggL_unstep_X3_unstep
theorem dL_unstep_0 : decode cL_unstep 0 = .ok (.aload_n 3, 1) := by decide +kernel
theorem dL_unstep_1 : decode cL_unstep 1 = .ok (.iconst 0, 1) := by decide +kernel
theorem dL_unstep_2 : decode cL_unstep 2 = .ok (.aload_n 0, 1) := by decide +kernel
theorem dL_unstep_3 : decode cL_unstep 3 = .ok (.iload_n 1, 1) := by decide +kernel
theorem dL_unstep_4 : decode cL_unstep 4 = .ok (.iload_n 2, 1) := by decide +kernel
theorem dL_unstep_5 : decode cL_unstep 5 = .ok (.invokevirtual 21, 3) := by decide +kernel
theorem dL_unstep_8 : decode cL_unstep 8 = .ok (.ifCond .eq 7, 3) := by decide +kernel
theorem dL_unstep_11 : decode cL_unstep 11 = .ok (.lconst 1, 1) := by decide +kernel
theorem dL_unstep_12 : decode cL_unstep 12 = .ok (.goto 4, 3) := by decide +kernel
theorem dL_unstep_15 : decode cL_unstep 15 = .ok (.lconst 0, 1) := by decide +kernel
theorem dL_unstep_16 : decode cL_unstep 16 = .ok (.lastore, 1) := by decide +kernel
theorem dL_unstep_17 : decode cL_unstep 17 = .ok (.goto 7, 3) := by decide +kernel
theorem dL_unstep_20 : decode cL_unstep 20 = .ok (.astore 4, 2) := by decide +kernel
theorem dL_unstep_22 : decode cL_unstep 22 = .ok (.iconst 1, 1) := by decide +kernel
theorem dL_unstep_23 : decode cL_unstep 23 = .ok (.ireturn, 1) := by decide +kernel
theorem dL_unstep_24 : decode cL_unstep 24 = .ok (.iconst 0, 1) := by decide +kernel
theorem dL_unstep_25 : decode cL_unstep 25 = .ok (.ireturn, 1) := by decide +kernel
set_option maxRecDepth 20000 in
theorem ggL_rename_X3_rename : GoodIn wsL_rename wsX3_rename := goodIn_ca (goodIn_ca (goodIn_r _ [7, 8, 9, 10, 11, 12, 6, 13, 14, 15, 16, 17, 18, 19, 20, 21, 22, 23, 24, 25, 26, 27, 28, 29, 30, 31, 32, 33, 34, 35, 36, 37, 38, 39, 40, 41, 42, 43, 44, 45, 46, 47, 48, 49, 50, 51, 52, 53, 54, 55, 56, 57, 58, 59, 60, 61, 62, 63, 64, 65, 66, 67, 68, 69, 70, 71, 72, 73, 74, 75, 76, 77, 78, 79, 80, 81] (by decide +kernel) (by decide +kernel)) (goodIn_sub (fun _ h => List.mem_cons_of_mem _ (List.mem_append_left _ (List.mem_append_right _ h))) (by decide +kernel))) (goodIn_sub (fun _ h => List.mem_cons_of_mem _ (List.mem_append_right _ h)) (by decide +kernel))
set_option maxRecDepth 20000 in
theorem gL_rename_X3_rename : GoodIn wsL_rename (wsV RL 25 RX3 yX3_rename wsX3_rename) := goodIn_app (goodIn_of _ (by decide +kernel)) ggL_rename_X3_rename
theorem dL_rename_0 : decode cL_rename 0 = .ok (.aload_n 3, 1) := by decide +kernel
theorem dL_rename_1 : decode cL_rename 1 = .ok (.iconst 0, 1) := by decide +kernel
theorem dL_rename_2 : decode cL_rename 2 = .ok (.aload_n 0, 1) := by decide +kernel
theorem dL_rename_3 : decode cL_rename 3 = .ok (.iload_n 1, 1) := by decide +kernel
theorem dL_rename_4 : decode cL_rename 4 = .ok (.iload_n 2, 1) := by decide +kernel
theorem dL_rename_5 : decode cL_rename 5 = .ok (.invokevirtual 25, 3) := by decide +kernel
theorem dL_rename_8 : decode cL_rename 8 = .ok (.i2l, 1) := by decide +kernel
theorem dL_rename_9 : decode cL_rename 9 = .ok (.lastore, 1) := by decide +kernel
theorem dL_rename_10 : decode cL_rename 10 = .ok (.goto 11, 3) := by decide +kernel
theorem dL_rename_13 : decode cL_rename 13 = .ok (.astore 4, 2) := by decide +kernel
theorem dL_rename_15 : decode cL_rename 15 = .ok (.iconst 1, 1) := by decide +kernel
theorem dL_rename_16 : decode cL_rename 16 = .ok (.ireturn, 1) := by decide +kernel
theorem dL_rename_17 : decode cL_rename 17 = .ok (.astore 4, 2) := by decide +kernel
theorem dL_rename_19 : decode cL_rename 19 = .ok (.iconst 2, 1) := by decide +kernel
theorem dL_rename_20 : decode cL_rename 20 = .ok (.ireturn, 1) := by decide +kernel
theorem dL_rename_21 : decode cL_rename 21 = .ok (.iconst 0, 1) := by decide +kernel
theorem dL_rename_22 : decode cL_rename 22 = .ok (.ireturn, 1) := by decide +kernel
