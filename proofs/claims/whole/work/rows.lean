section
-- ===== PART A: goes FIRST, ahead of the names: the tables' words, and 'selects' of the private methods out of them =====
/-- a private method of a class that the tables say can be made, by its rows of tables_1 -/
def lw_okq (q : MethodName × Nat) : Prop := (q.1.cls ≠ "java/lang/invoke/MethodHandle" ∧ q.1.cls ≠ "java/lang/invoke/VarHandle") ∧ Cond.instantiable q.1.cls q.2 ∈ tables_1 ∧ Cond.privateMethod q.1 ∈ tables_1 ∧ Cond.instanceMethod q.1 ∈ tables_1
theorem lw_p0 : lw_okq (⟨"RegionNets$Steps", "nextStates", "(I)I"⟩, 5) := ⟨⟨by decide +kernel, by decide +kernel⟩, List.mem_of_getElem? (i := 22) (by decide +kernel), List.mem_of_getElem? (i := 135) (by decide +kernel), List.mem_of_getElem? (i := 136) (by decide +kernel)⟩
theorem lw_p1 : lw_okq (⟨"RegionNets$Regions", "search", "()V"⟩, 4) := ⟨⟨by decide +kernel, by decide +kernel⟩, List.mem_of_getElem? (i := 50) (by decide +kernel), List.mem_of_getElem? (i := 150) (by decide +kernel), List.mem_of_getElem? (i := 151) (by decide +kernel)⟩
theorem lw_p2 : lw_okq (⟨"RegionNets$Steps", "sourcesOf", "(II)I"⟩, 5) := ⟨⟨by decide +kernel, by decide +kernel⟩, List.mem_of_getElem? (i := 22) (by decide +kernel), List.mem_of_getElem? (i := 166) (by decide +kernel), List.mem_of_getElem? (i := 167) (by decide +kernel)⟩
theorem lw_p3 : lw_okq (⟨"RegionNets$Regions", "preventedIn", "(I)I"⟩, 4) := ⟨⟨by decide +kernel, by decide +kernel⟩, List.mem_of_getElem? (i := 50) (by decide +kernel), List.mem_of_getElem? (i := 197) (by decide +kernel), List.mem_of_getElem? (i := 198) (by decide +kernel)⟩
theorem lw_p4 : lw_okq (⟨"RegionNets$Net", "choosePlaces", "()V"⟩, 11) := ⟨⟨by decide +kernel, by decide +kernel⟩, List.mem_of_getElem? (i := 70) (by decide +kernel), List.mem_of_getElem? (i := 230) (by decide +kernel), List.mem_of_getElem? (i := 231) (by decide +kernel)⟩
theorem lw_p5 : lw_okq (⟨"RegionNets$Net", "holdsPlace", "(I)Z"⟩, 11) := ⟨⟨by decide +kernel, by decide +kernel⟩, List.mem_of_getElem? (i := 70) (by decide +kernel), List.mem_of_getElem? (i := 239) (by decide +kernel), List.mem_of_getElem? (i := 240) (by decide +kernel)⟩
theorem lw_p6 : lw_okq (⟨"RegionNets$Net", "placesCrossed", "(II)I"⟩, 11) := ⟨⟨by decide +kernel, by decide +kernel⟩, List.mem_of_getElem? (i := 70) (by decide +kernel), List.mem_of_getElem? (i := 243) (by decide +kernel), List.mem_of_getElem? (i := 244) (by decide +kernel)⟩
theorem lw_p7 : lw_okq (⟨"RegionNets$Net", "placesWith", "(I)I"⟩, 11) := ⟨⟨by decide +kernel, by decide +kernel⟩, List.mem_of_getElem? (i := 70) (by decide +kernel), List.mem_of_getElem? (i := 248) (by decide +kernel), List.mem_of_getElem? (i := 249) (by decide +kernel)⟩
theorem lw_p8 : lw_okq (⟨"java/lang/Throwable", "fillInStackTrace", "(I)Ljava/lang/Throwable;"⟩, 6) := ⟨⟨by decide +kernel, by decide +kernel⟩, List.mem_of_getElem? (i := 317) (by decide +kernel), List.mem_of_getElem? (i := 315) (by decide +kernel), List.mem_of_getElem? (i := 316) (by decide +kernel)⟩
theorem lw_p9 : lw_okq (⟨"RegionNets", "changed", "()V"⟩, 3) := ⟨⟨by decide +kernel, by decide +kernel⟩, List.mem_of_getElem? (i := 14) (by decide +kernel), List.mem_of_getElem? (i := 347) (by decide +kernel), List.mem_of_getElem? (i := 348) (by decide +kernel)⟩
theorem lw_p10 : lw_okq (⟨"RegionNets", "needState", "(I)V"⟩, 3) := ⟨⟨by decide +kernel, by decide +kernel⟩, List.mem_of_getElem? (i := 14) (by decide +kernel), List.mem_of_getElem? (i := 359) (by decide +kernel), List.mem_of_getElem? (i := 360) (by decide +kernel)⟩
theorem lw_p11 : lw_okq (⟨"RegionNets$Steps", "setEnd", "(III)V"⟩, 5) := ⟨⟨by decide +kernel, by decide +kernel⟩, List.mem_of_getElem? (i := 22) (by decide +kernel), List.mem_of_getElem? (i := 387) (by decide +kernel), List.mem_of_getElem? (i := 388) (by decide +kernel)⟩
theorem lw_p12 : lw_okq (⟨"RegionNets$Steps", "learnSources", "(I)V"⟩, 5) := ⟨⟨by decide +kernel, by decide +kernel⟩, List.mem_of_getElem? (i := 22) (by decide +kernel), List.mem_of_getElem? (i := 391) (by decide +kernel), List.mem_of_getElem? (i := 392) (by decide +kernel)⟩
theorem lw_p13 : lw_okq (⟨"RegionNets$Steps", "learnHalf", "(II[I)V"⟩, 5) := ⟨⟨by decide +kernel, by decide +kernel⟩, List.mem_of_getElem? (i := 22) (by decide +kernel), List.mem_of_getElem? (i := 395) (by decide +kernel), List.mem_of_getElem? (i := 396) (by decide +kernel)⟩
theorem lw_p14 : lw_okq (⟨"RegionNets$Steps", "beginsOfStepsTo", "(II)I"⟩, 5) := ⟨⟨by decide +kernel, by decide +kernel⟩, List.mem_of_getElem? (i := 22) (by decide +kernel), List.mem_of_getElem? (i := 399) (by decide +kernel), List.mem_of_getElem? (i := 400) (by decide +kernel)⟩
theorem lw_p15 : lw_okq (⟨"RegionNets", "needSet", "(I)V"⟩, 3) := ⟨⟨by decide +kernel, by decide +kernel⟩, List.mem_of_getElem? (i := 14) (by decide +kernel), List.mem_of_getElem? (i := 460) (by decide +kernel), List.mem_of_getElem? (i := 461) (by decide +kernel)⟩
def lw_privs_1 : List (MethodName × Nat) := [(⟨"RegionNets$Steps", "nextStates", "(I)I"⟩, 5), (⟨"RegionNets$Regions", "search", "()V"⟩, 4), (⟨"RegionNets$Steps", "sourcesOf", "(II)I"⟩, 5), (⟨"RegionNets$Regions", "preventedIn", "(I)I"⟩, 4), (⟨"RegionNets$Net", "choosePlaces", "()V"⟩, 11), (⟨"RegionNets$Net", "holdsPlace", "(I)Z"⟩, 11), (⟨"RegionNets$Net", "placesCrossed", "(II)I"⟩, 11), (⟨"RegionNets$Net", "placesWith", "(I)I"⟩, 11), (⟨"java/lang/Throwable", "fillInStackTrace", "(I)Ljava/lang/Throwable;"⟩, 6), (⟨"RegionNets", "changed", "()V"⟩, 3), (⟨"RegionNets", "needState", "(I)V"⟩, 3), (⟨"RegionNets$Steps", "setEnd", "(III)V"⟩, 5), (⟨"RegionNets$Steps", "learnSources", "(I)V"⟩, 5), (⟨"RegionNets$Steps", "learnHalf", "(II[I)V"⟩, 5), (⟨"RegionNets$Steps", "beginsOfStepsTo", "(II)I"⟩, 5), (⟨"RegionNets", "needSet", "(I)V"⟩, 3)]
theorem lw_r1 : ∀ q ∈ lw_privs_1, lw_okq q := List.forall_mem_cons.mpr ⟨lw_p0, List.forall_mem_cons.mpr ⟨lw_p1, List.forall_mem_cons.mpr ⟨lw_p2, List.forall_mem_cons.mpr ⟨lw_p3, List.forall_mem_cons.mpr ⟨lw_p4, List.forall_mem_cons.mpr ⟨lw_p5, List.forall_mem_cons.mpr ⟨lw_p6, List.forall_mem_cons.mpr ⟨lw_p7, List.forall_mem_cons.mpr ⟨lw_p8, List.forall_mem_cons.mpr ⟨lw_p9, List.forall_mem_cons.mpr ⟨lw_p10, List.forall_mem_cons.mpr ⟨lw_p11, List.forall_mem_cons.mpr ⟨lw_p12, List.forall_mem_cons.mpr ⟨lw_p13, List.forall_mem_cons.mpr ⟨lw_p14, List.forall_mem_cons.mpr ⟨lw_p15, fun _ h => absurd h List.not_mem_nil⟩⟩⟩⟩⟩⟩⟩⟩⟩⟩⟩⟩⟩⟩⟩⟩
theorem lw_p16 : lw_okq (⟨"RegionNets", "needRegion", "(I)V"⟩, 3) := ⟨⟨by decide +kernel, by decide +kernel⟩, List.mem_of_getElem? (i := 14) (by decide +kernel), List.mem_of_getElem? (i := 500) (by decide +kernel), List.mem_of_getElem? (i := 501) (by decide +kernel)⟩
theorem lw_p17 : lw_okq (⟨"RegionNets$Steps", "growth", "(II)I"⟩, 5) := ⟨⟨by decide +kernel, by decide +kernel⟩, List.mem_of_getElem? (i := 22) (by decide +kernel), List.mem_of_getElem? (i := 528) (by decide +kernel), List.mem_of_getElem? (i := 529) (by decide +kernel)⟩
theorem lw_p18 : lw_okq (⟨"RegionNets$Steps", "endsOf", "(I)I"⟩, 5) := ⟨⟨by decide +kernel, by decide +kernel⟩, List.mem_of_getElem? (i := 22) (by decide +kernel), List.mem_of_getElem? (i := 532) (by decide +kernel), List.mem_of_getElem? (i := 533) (by decide +kernel)⟩
theorem lw_p19 : lw_okq (⟨"RegionNets$Regions", "prevents", "(III)Z"⟩, 4) := ⟨⟨by decide +kernel, by decide +kernel⟩, List.mem_of_getElem? (i := 50) (by decide +kernel), List.mem_of_getElem? (i := 555) (by decide +kernel), List.mem_of_getElem? (i := 556) (by decide +kernel)⟩
theorem lw_p20 : lw_okq (⟨"RegionNets", "needNet", "()V"⟩, 3) := ⟨⟨by decide +kernel, by decide +kernel⟩, List.mem_of_getElem? (i := 14) (by decide +kernel), List.mem_of_getElem? (i := 566) (by decide +kernel), List.mem_of_getElem? (i := 567) (by decide +kernel)⟩
theorem lw_p21 : lw_okq (⟨"RegionNets$Net", "findMarkings", "()V"⟩, 11) := ⟨⟨by decide +kernel, by decide +kernel⟩, List.mem_of_getElem? (i := 70) (by decide +kernel), List.mem_of_getElem? (i := 632) (by decide +kernel), List.mem_of_getElem? (i := 633) (by decide +kernel)⟩
theorem lw_p22 : lw_okq (⟨"RegionNets$Net", "keepNew", "(I)V"⟩, 11) := ⟨⟨by decide +kernel, by decide +kernel⟩, List.mem_of_getElem? (i := 70) (by decide +kernel), List.mem_of_getElem? (i := 638) (by decide +kernel), List.mem_of_getElem? (i := 639) (by decide +kernel)⟩
theorem lw_p23 : lw_okq (⟨"RegionNets$Net", "isMatched", "(II)Z"⟩, 11) := ⟨⟨by decide +kernel, by decide +kernel⟩, List.mem_of_getElem? (i := 70) (by decide +kernel), List.mem_of_getElem? (i := 666) (by decide +kernel), List.mem_of_getElem? (i := 667) (by decide +kernel)⟩
theorem lw_p24 : lw_okq (⟨"RegionNetsModel", "fail", "(I)I"⟩, 12) := ⟨⟨by decide +kernel, by decide +kernel⟩, List.mem_of_getElem? (i := 671) (by decide +kernel), List.mem_of_getElem? (i := 722) (by decide +kernel), List.mem_of_getElem? (i := 723) (by decide +kernel)⟩
theorem lw_p25 : lw_okq (⟨"RegionNetsModel", "change", "()V"⟩, 12) := ⟨⟨by decide +kernel, by decide +kernel⟩, List.mem_of_getElem? (i := 671) (by decide +kernel), List.mem_of_getElem? (i := 726) (by decide +kernel), List.mem_of_getElem? (i := 727) (by decide +kernel)⟩
theorem lw_p26 : lw_okq (⟨"RegionNetsModel", "isState", "(I)Z"⟩, 12) := ⟨⟨by decide +kernel, by decide +kernel⟩, List.mem_of_getElem? (i := 671) (by decide +kernel), List.mem_of_getElem? (i := 734) (by decide +kernel), List.mem_of_getElem? (i := 735) (by decide +kernel)⟩
theorem lw_p27 : lw_okq (⟨"RegionNetsModel", "to", "(II)I"⟩, 12) := ⟨⟨by decide +kernel, by decide +kernel⟩, List.mem_of_getElem? (i := 671) (by decide +kernel), List.mem_of_getElem? (i := 741) (by decide +kernel), List.mem_of_getElem? (i := 742) (by decide +kernel)⟩
theorem lw_p28 : lw_okq (⟨"RegionNetsModel", "goOn", "(I)I"⟩, 12) := ⟨⟨by decide +kernel, by decide +kernel⟩, List.mem_of_getElem? (i := 671) (by decide +kernel), List.mem_of_getElem? (i := 769) (by decide +kernel), List.mem_of_getElem? (i := 770) (by decide +kernel)⟩
theorem lw_p29 : lw_okq (⟨"RegionNetsModel", "isSet", "(I)Z"⟩, 12) := ⟨⟨by decide +kernel, by decide +kernel⟩, List.mem_of_getElem? (i := 671) (by decide +kernel), List.mem_of_getElem? (i := 784) (by decide +kernel), List.mem_of_getElem? (i := 785) (by decide +kernel)⟩
theorem lw_p30 : lw_okq (⟨"RegionNetsModel", "way", "(II)I"⟩, 12) := ⟨⟨by decide +kernel, by decide +kernel⟩, List.mem_of_getElem? (i := 671) (by decide +kernel), List.mem_of_getElem? (i := 788) (by decide +kernel), List.mem_of_getElem? (i := 789) (by decide +kernel)⟩
theorem lw_p31 : lw_okq (⟨"RegionNetsModel", "isProper", "(I)Z"⟩, 12) := ⟨⟨by decide +kernel, by decide +kernel⟩, List.mem_of_getElem? (i := 671) (by decide +kernel), List.mem_of_getElem? (i := 796) (by decide +kernel), List.mem_of_getElem? (i := 797) (by decide +kernel)⟩
def lw_privs_2 : List (MethodName × Nat) := [(⟨"RegionNets", "needRegion", "(I)V"⟩, 3), (⟨"RegionNets$Steps", "growth", "(II)I"⟩, 5), (⟨"RegionNets$Steps", "endsOf", "(I)I"⟩, 5), (⟨"RegionNets$Regions", "prevents", "(III)Z"⟩, 4), (⟨"RegionNets", "needNet", "()V"⟩, 3), (⟨"RegionNets$Net", "findMarkings", "()V"⟩, 11), (⟨"RegionNets$Net", "keepNew", "(I)V"⟩, 11), (⟨"RegionNets$Net", "isMatched", "(II)Z"⟩, 11), (⟨"RegionNetsModel", "fail", "(I)I"⟩, 12), (⟨"RegionNetsModel", "change", "()V"⟩, 12), (⟨"RegionNetsModel", "isState", "(I)Z"⟩, 12), (⟨"RegionNetsModel", "to", "(II)I"⟩, 12), (⟨"RegionNetsModel", "goOn", "(I)I"⟩, 12), (⟨"RegionNetsModel", "isSet", "(I)Z"⟩, 12), (⟨"RegionNetsModel", "way", "(II)I"⟩, 12), (⟨"RegionNetsModel", "isProper", "(I)Z"⟩, 12)]
theorem lw_r2 : ∀ q ∈ lw_privs_2, lw_okq q := List.forall_mem_cons.mpr ⟨lw_p16, List.forall_mem_cons.mpr ⟨lw_p17, List.forall_mem_cons.mpr ⟨lw_p18, List.forall_mem_cons.mpr ⟨lw_p19, List.forall_mem_cons.mpr ⟨lw_p20, List.forall_mem_cons.mpr ⟨lw_p21, List.forall_mem_cons.mpr ⟨lw_p22, List.forall_mem_cons.mpr ⟨lw_p23, List.forall_mem_cons.mpr ⟨lw_p24, List.forall_mem_cons.mpr ⟨lw_p25, List.forall_mem_cons.mpr ⟨lw_p26, List.forall_mem_cons.mpr ⟨lw_p27, List.forall_mem_cons.mpr ⟨lw_p28, List.forall_mem_cons.mpr ⟨lw_p29, List.forall_mem_cons.mpr ⟨lw_p30, List.forall_mem_cons.mpr ⟨lw_p31, fun _ h => absurd h List.not_mem_nil⟩⟩⟩⟩⟩⟩⟩⟩⟩⟩⟩⟩⟩⟩⟩⟩
theorem lw_p32 : lw_okq (⟨"RegionNetsModel", "mixed", "(I)I"⟩, 12) := ⟨⟨by decide +kernel, by decide +kernel⟩, List.mem_of_getElem? (i := 671) (by decide +kernel), List.mem_of_getElem? (i := 800) (by decide +kernel), List.mem_of_getElem? (i := 801) (by decide +kernel)⟩
theorem lw_p33 : lw_okq (⟨"RegionNetsModel", "know", "()V"⟩, 12) := ⟨⟨by decide +kernel, by decide +kernel⟩, List.mem_of_getElem? (i := 671) (by decide +kernel), List.mem_of_getElem? (i := 808) (by decide +kernel), List.mem_of_getElem? (i := 809) (by decide +kernel)⟩
theorem lw_p34 : lw_okq (⟨"RegionNetsModel", "isSmallest", "(I)Z"⟩, 12) := ⟨⟨by decide +kernel, by decide +kernel⟩, List.mem_of_getElem? (i := 671) (by decide +kernel), List.mem_of_getElem? (i := 820) (by decide +kernel), List.mem_of_getElem? (i := 821) (by decide +kernel)⟩
theorem lw_p35 : lw_okq (⟨"RegionNetsModel", "ends", "(IZ)I"⟩, 12) := ⟨⟨by decide +kernel, by decide +kernel⟩, List.mem_of_getElem? (i := 671) (by decide +kernel), List.mem_of_getElem? (i := 828) (by decide +kernel), List.mem_of_getElem? (i := 829) (by decide +kernel)⟩
theorem lw_p36 : lw_okq (⟨"RegionNetsModel", "firstApart", "(II)I"⟩, 12) := ⟨⟨by decide +kernel, by decide +kernel⟩, List.mem_of_getElem? (i := 671) (by decide +kernel), List.mem_of_getElem? (i := 836) (by decide +kernel), List.mem_of_getElem? (i := 837) (by decide +kernel)⟩
theorem lw_p37 : lw_okq (⟨"RegionNetsModel", "firstPreventer", "(II)I"⟩, 12) := ⟨⟨by decide +kernel, by decide +kernel⟩, List.mem_of_getElem? (i := 671) (by decide +kernel), List.mem_of_getElem? (i := 844) (by decide +kernel), List.mem_of_getElem? (i := 845) (by decide +kernel)⟩
theorem lw_p38 : lw_okq (⟨"RegionNetsModel", "lumpCount", "()I"⟩, 12) := ⟨⟨by decide +kernel, by decide +kernel⟩, List.mem_of_getElem? (i := 671) (by decide +kernel), List.mem_of_getElem? (i := 852) (by decide +kernel), List.mem_of_getElem? (i := 853) (by decide +kernel)⟩
theorem lw_p39 : lw_okq (⟨"RegionNetsModel", "leakCount", "()I"⟩, 12) := ⟨⟨by decide +kernel, by decide +kernel⟩, List.mem_of_getElem? (i := 671) (by decide +kernel), List.mem_of_getElem? (i := 860) (by decide +kernel), List.mem_of_getElem? (i := 861) (by decide +kernel)⟩
theorem lw_p40 : lw_okq (⟨"RegionNetsModel", "isAsked", "(II)Z"⟩, 12) := ⟨⟨by decide +kernel, by decide +kernel⟩, List.mem_of_getElem? (i := 671) (by decide +kernel), List.mem_of_getElem? (i := 864) (by decide +kernel), List.mem_of_getElem? (i := 865) (by decide +kernel)⟩
theorem lw_p41 : lw_okq (⟨"RegionNetsModel", "findMarkings", "()V"⟩, 12) := ⟨⟨by decide +kernel, by decide +kernel⟩, List.mem_of_getElem? (i := 671) (by decide +kernel), List.mem_of_getElem? (i := 876) (by decide +kernel), List.mem_of_getElem? (i := 877) (by decide +kernel)⟩
theorem lw_p42 : lw_okq (⟨"RegionNetsModel", "firstMarking", "()I"⟩, 12) := ⟨⟨by decide +kernel, by decide +kernel⟩, List.mem_of_getElem? (i := 671) (by decide +kernel), List.mem_of_getElem? (i := 880) (by decide +kernel), List.mem_of_getElem? (i := 881) (by decide +kernel)⟩
theorem lw_p43 : lw_okq (⟨"RegionNetsModel", "behind", "(II)I"⟩, 12) := ⟨⟨by decide +kernel, by decide +kernel⟩, List.mem_of_getElem? (i := 671) (by decide +kernel), List.mem_of_getElem? (i := 884) (by decide +kernel), List.mem_of_getElem? (i := 885) (by decide +kernel)⟩
theorem lw_p44 : lw_okq (⟨"RegionNetsModel", "crossed", "(II)I"⟩, 12) := ⟨⟨by decide +kernel, by decide +kernel⟩, List.mem_of_getElem? (i := 671) (by decide +kernel), List.mem_of_getElem? (i := 888) (by decide +kernel), List.mem_of_getElem? (i := 889) (by decide +kernel)⟩
theorem lw_p45 : lw_okq (⟨"RegionNetsModel", "numberOf", "(I)I"⟩, 12) := ⟨⟨by decide +kernel, by decide +kernel⟩, List.mem_of_getElem? (i := 671) (by decide +kernel), List.mem_of_getElem? (i := 892) (by decide +kernel), List.mem_of_getElem? (i := 893) (by decide +kernel)⟩
theorem lw_p46 : lw_okq (⟨"RegionNetsModel", "asks", "(II)Z"⟩, 12) := ⟨⟨by decide +kernel, by decide +kernel⟩, List.mem_of_getElem? (i := 671) (by decide +kernel), List.mem_of_getElem? (i := 904) (by decide +kernel), List.mem_of_getElem? (i := 905) (by decide +kernel)⟩
def lw_privs_3 : List (MethodName × Nat) := [(⟨"RegionNetsModel", "mixed", "(I)I"⟩, 12), (⟨"RegionNetsModel", "know", "()V"⟩, 12), (⟨"RegionNetsModel", "isSmallest", "(I)Z"⟩, 12), (⟨"RegionNetsModel", "ends", "(IZ)I"⟩, 12), (⟨"RegionNetsModel", "firstApart", "(II)I"⟩, 12), (⟨"RegionNetsModel", "firstPreventer", "(II)I"⟩, 12), (⟨"RegionNetsModel", "lumpCount", "()I"⟩, 12), (⟨"RegionNetsModel", "leakCount", "()I"⟩, 12), (⟨"RegionNetsModel", "isAsked", "(II)Z"⟩, 12), (⟨"RegionNetsModel", "findMarkings", "()V"⟩, 12), (⟨"RegionNetsModel", "firstMarking", "()I"⟩, 12), (⟨"RegionNetsModel", "behind", "(II)I"⟩, 12), (⟨"RegionNetsModel", "crossed", "(II)I"⟩, 12), (⟨"RegionNetsModel", "numberOf", "(I)I"⟩, 12), (⟨"RegionNetsModel", "asks", "(II)Z"⟩, 12)]
theorem lw_r3 : ∀ q ∈ lw_privs_3, lw_okq q := List.forall_mem_cons.mpr ⟨lw_p32, List.forall_mem_cons.mpr ⟨lw_p33, List.forall_mem_cons.mpr ⟨lw_p34, List.forall_mem_cons.mpr ⟨lw_p35, List.forall_mem_cons.mpr ⟨lw_p36, List.forall_mem_cons.mpr ⟨lw_p37, List.forall_mem_cons.mpr ⟨lw_p38, List.forall_mem_cons.mpr ⟨lw_p39, List.forall_mem_cons.mpr ⟨lw_p40, List.forall_mem_cons.mpr ⟨lw_p41, List.forall_mem_cons.mpr ⟨lw_p42, List.forall_mem_cons.mpr ⟨lw_p43, List.forall_mem_cons.mpr ⟨lw_p44, List.forall_mem_cons.mpr ⟨lw_p45, List.forall_mem_cons.mpr ⟨lw_p46, fun _ h => absurd h List.not_mem_nil⟩⟩⟩⟩⟩⟩⟩⟩⟩⟩⟩⟩⟩⟩⟩
def lw_privs : List (MethodName × Nat) := lw_privs_1 ++ (lw_privs_2 ++ (lw_privs_3))
def lw_tbl : List Cond := k2_sels lw_privs ++ tables_1
theorem lw_privs_ok : ∀ q ∈ lw_privs, lw_okq q := by
  show ∀ q ∈ lw_privs_1 ++ (lw_privs_2 ++ (lw_privs_3)), lw_okq q
  exact List.forall_mem_append.mpr ⟨lw_r1, List.forall_mem_append.mpr ⟨lw_r2, lw_r3⟩⟩
/-- the streams that the claim lets the run draw from -/
abbrev lw_cs : List Choice := [Jvm.Choice.named "NaN.bits"]
theorem lw_bits : nanBits ∈ lw_cs := by first | decide | exact List.mem_cons_self | simp [lw_cs, nanBits]
-- ===== end of PART A; then your names; then what follows =====
end
section
/-! ===== BEGIN words of one list among another's, by their places ===== -/
theorem goodIn_r {big : List Cond} (ws : List Cond) (ps : List Nat) (hp : ws = ps.filterMap (fun i => big[i]?)) (h : ws.all goodWord = true) : GoodIn big ws := by
  intro w hw
  have h1 := List.all_eq_true.mp h w hw
  rw [hp] at hw
  obtain ⟨i, -, hi⟩ := List.mem_filterMap.mp hw
  have hm : w ∈ big := by first | exact List.mem_of_getElem? hi | exact List.getElem?_mem hi
  exact ⟨hm, good_of_word h1⟩
theorem goodIn_app {big a b : List Cond} (ha : GoodIn big a) (hb : GoodIn big b) : GoodIn big (a ++ b) := fun w h => (List.mem_append.mp h).elim (ha w) (hb w)
theorem goodIn_ca {big a b : List Cond} {c : Cond} (ha : GoodIn big (c :: a)) (hb : GoodIn big b) : GoodIn big (c :: (a ++ b)) := fun w h => (List.mem_cons.mp h).elim (fun e => ha w (List.mem_cons.mpr (Or.inl e))) (fun h => (List.mem_append.mp h).elim (fun h => ha w (List.mem_cons.mpr (Or.inr h))) (hb w))
theorem goodIn_sub {big ws : List Cond} (hm : ∀ w ∈ ws, w ∈ big) (h : ws.all goodWord = true) : GoodIn big ws := fun w hw => ⟨hm w hw, good_of_word (List.all_eq_true.mp h w hw)⟩
/-! ===== END ===== -/

/-! ===== BEGIN new T[n][m]: the outer array a place, the inner ones among the pooled ===== -/
/-- f, but v at every address of l -/
def vr_up {α : Type} (f : Nat → α) (l : List Nat) (v : α) : Nat → α := fun a => if a ∈ l then v else f a
theorem vr_up_in {α : Type} {f : Nat → α} {l : List Nat} {v : α} {a : Nat} (h : a ∈ l) : vr_up f l v a = v := if_pos h
theorem vr_up_ne {α : Type} {f : Nat → α} {l : List Nat} {v : α} {a : Nat} (h : a ∉ l) : vr_up f l v a = f a := if_neg h
theorem vr_rows {L l : List Nat} {f : Nat → va_E} {e : va_E} (h : ∀ a, a ∈ l → a ∉ L) : va_pl L f ++ l.map (fun a => (a, e)) = va_pl (L ++ l) (vr_up f l e) := by
  unfold va_pl
  rw [List.map_append]
  congr 1
  · apply List.map_congr_left
    intro a ha
    rw [vr_up_ne (fun q => h a q ha)]
  · apply List.map_congr_left
    intro a ha
    rw [vr_up_in ha]
theorem vr_lay {X rows : va_W} {x : Nat × va_E} {pl : va_W} {D : va_G} {cl : List vw_C} {H : Heap} (hP : va_P D cl (((X ++ pl) ++ [x]) ++ rows) H) : va_P D cl ((X ++ [x]) ++ (pl ++ rows)) H := by
  rw [List.append_assoc (X ++ pl)] at hP
  have h := va_P.swap hP
  rw [← List.append_assoc X] at h
  have h2 := va_P.swap h
  rw [List.append_assoc (X ++ [x])] at h2
  exact h2
theorem vr_layD {X rows : va_W} {x : Nat × va_E} {pl : va_W} {A : Nat → Prop} (hD : va_D A (((X ++ pl) ++ [x]) ++ rows)) : va_D A ((X ++ [x]) ++ (pl ++ rows)) := by
  rw [List.append_assoc (X ++ pl)] at hD
  have h := va_D.swap hD
  rw [← List.append_assoc X] at h
  have h2 := va_D.swap h
  rw [List.append_assoc (X ++ [x])] at h2
  exact h2
theorem vr_outer (c : ClassId) (N h0 : Nat) : ∀ i : Nat, Jvm.Free.Multi.outerC c N h0 i = arrV c N (fun j => va_rf (if j < i then some (h0 + 1 + j) else none))
  | 0 => by
    show ({ cls := c, slots := Array.replicate N .null, vm := .none } : Cell) = _
    rw [arrV_new]
    refine congrArg (arrV c N) (funext fun j => ?_)
    simp [va_rf]
  | i + 1 => by
    show (Jvm.Free.Multi.outerC c N h0 i).setSlot i (.ref (h0 + 1 + i)) = _
    rw [vr_outer c N h0 i, arrV_store]
    refine congrArg (arrV c N) (funext fun j => ?_)
    by_cases e : j = i
    · subst e
      simp [updV, va_rf]
    · by_cases h : j < i
      · simp [updV, e, h, Nat.lt_succ_of_lt h]
      · simp [updV, e, h, show ¬ j < i + 1 by omega]
/-- (the printed row va_mna names va_AOA, which no printed text defines: it is this) -/
def va_AOA (ty : FieldType) (U : State) : Prop := (Cond.arrayOver (.array ty)).before #[] U = true
theorem va_AOA.of {ty : FieldType} {A : Array Value} {U : State} (h : (Cond.arrayOver (.array ty)).before A U = true) : va_AOA ty U := h
theorem va_AOA.use {ty : FieldType} {A : Array Value} {U : State} (h : va_AOA ty U) : (Cond.arrayOver (.array ty)).before A U = true := h
section VGM
variable {p : Program} {l : Launch} {e : Env} {R : Room} {s : State} {m : MethodId} {args : Array Value} {below : List Frame} {meth : Method} {c : Code} {H : Heap} {locs : List Loc} {cells slots : Nat} {Q : State → Prop}
variable {cc : ByteArray} {pc : Nat} {ls : Array Slot} {rest : List Value} {D : va_G} {cl : List vw_C} {A : Nat → Prop} {a : Nat} {tys : List (ClassId × FieldType)} {ws : va_W} {H0 : Heap}
theorem va_mna {X : va_W} {L : List Nat} {f : Nat → va_E} {cc : ByteArray} (hexec : p.tables.exec = Jvm.exec) (hb : c.code = cc) {own : String} {index : Nat} {ty : FieldType} {cy : ClassId} (hown : s.vm.findClass own = some m.cls) (hclink : (Cond.classLink own index ("[" ++ (FieldType.array ty).toString)).before args s = true) (hover : va_AOA ty s) (harr : (Cond.arrayClass ty).before args s = true) (hcy : s.vm.findClass (FieldType.array ty).toString = some cy)
    (hK : va_K D cl tys s) (hP : va_P D cl (X ++ va_pl L f) H) (hD : va_D A (X ++ va_pl L f)) (hS : va_S A H0 H locs) (hA : ∀ q, H0.size ≤ q → A q) {n k : Int32} {N' K' : Nat} {z : vp_A} (hn : ¬ n < 0) (hk : ¬ k < 0) (hN : n.toNatClampNeg = N') (hM : k.toNatClampNeg = K')
    (hb1 : N' * 4 ≤ 536870912) (hb2 : K' * componentBytes ty ≤ 536870912) (hb3 : K' ≤ 536870912) (hdf : fits ty (defaultValue ty) = true) (hdd : (defaultValue ty).isDefault = true) (hcells : cells + (1 + N') ≤ R.cells) (hslots : slots + (N' + N' * K') ≤ R.slots) (hz : ∀ c : ClassId, Jvm.Free.Multi.innerC c K' (defaultValue ty) = vp_cell c z) (hdg : decode cc pc = .ok (.multianewarray index 2, 4))
    (kk : ∀ (q : Nat) (r : Nat → Nat) (cA : ClassId) (H1 : Heap), (∀ i j : Nat, i < N' → j < N' → r i = r j → i = j) → (∀ i : Nat, i < N' → r i ∉ L) → va_K D cl (tys ++ [(cA, .array ty)]) s →
      va_P D cl ((X ++ [(q, .inl (cA, N', .inr (.inr (.inr (.inr (fun i => if i < N' then some (r i) else none))))))]) ++ va_pl (L ++ (List.range N').map r) (vr_up f ((List.range N').map r) (.inl (cy, z)))) H1 → va_D A ((X ++ [(q, .inl (cA, N', .inr (.inr (.inr (.inr (fun i => if i < N' then some (r i) else none))))))]) ++ va_pl (L ++ (List.range N').map r) (vr_up f ((List.range N').map r) (.inl (cy, z)))) → va_S A H0 H1 locs →
      W p l e R s m args below meth c H1 locs (cells + 1 + N') (slots + N' + N' * K') Q (F0 m (pc + 4) ls (.ref q :: rest))) : W p l e R s m args below meth c H locs cells slots Q (F0 m pc ls (.int k :: .int n :: rest)) := by
  subst hN
  subst hM
  intro T hT Xs
  obtain ⟨vm₁, cA, comp, -, fA, fC, hO, -, X', step⟩ := Xs.multianewarray2F hexec hown hclink (va_AOA.use hover) harr (g := F0 m pc ls (.int k :: .int n :: rest)) rfl (by rw [hb]; exact hdg) rfl hn hk hb1 hb2 hb3 hdf hdd hcells hslots
  have ec : some cy = some comp := hcy.symm.trans fC
  cases ec
  generalize hF : Jvm.Free.Multi.fill (T.setVm vm₁) cA cy n.toNatClampNeg k.toNatClampNeg (defaultValue ty) n.toNatClampNeg = F at X' step
  have hTh : (T.setVm vm₁).heap = H := hT
  obtain ⟨f1, f2, -, -⟩ := Jvm.Free.Multi.fill_facts (T.setVm vm₁) cA cy n.toNatClampNeg k.toNatClampNeg (defaultValue ty) n.toNatClampNeg
  rw [hF, hTh] at f1 f2
  have hold : ∀ x : Nat, x < H.size → F.heap[x]? = H[x]? := fun x hx => by
    have := Jvm.Free.Multi.fill_old (T.setVm vm₁) cA cy n.toNatClampNeg k.toNatClampNeg (defaultValue ty) (a := x) (by rw [hTh]; exact hx) n.toNatClampNeg
    rw [hF, hTh] at this
    exact this
  have hrow : ∀ j : Nat, j < n.toNatClampNeg → F.heap[H.size + 1 + j]? = some (vp_cell cy z) := fun j hj => by
    have := Jvm.Free.Multi.fill_inner (T.setVm vm₁) cA cy n.toNatClampNeg k.toNatClampNeg (defaultValue ty) n.toNatClampNeg j hj
    rw [hF, hTh, hz] at this
    exact this
  have hout : Jvm.Free.Multi.outerC cA n.toNatClampNeg H.size n.toNatClampNeg = vp_cell cA (n.toNatClampNeg, .inr (.inr (.inr (.inr (fun i => if i < n.toNatClampNeg then some (H.size + 1 + i) else none))))) := by
    rw [vp_cell_q]
    exact vr_outer cA n.toNatClampNeg H.size n.toNatClampNeg
  rw [hout] at f2
  have hlt : ∀ a, a ∈ L → a < H.size := fun a ha => by
    obtain ⟨k9, hk9⟩ := va_pl_get (X := X) (f := f) ha
    exact (hP k9 _ hk9).lt
  have hnl : ∀ i : Nat, i < n.toNatClampNeg → H.size + 1 + i ∉ L := fun i _ h => by
    have := hlt _ h
    omega
  have hnm : ∀ a, a ∈ (List.range n.toNatClampNeg).map (fun i => H.size + 1 + i) → a ∉ L := fun a ha h => by
    obtain ⟨i, -, rfl⟩ := List.mem_map.mp ha
    have := hlt _ h
    omega
  have hP0 : va_P D cl (X ++ va_pl L f) F.heap := hP.kept (fun k9 x hx => hold x.1 ((hP k9 x hx).lt))
  have hP1 : va_P D cl ((X ++ va_pl L f) ++ [(H.size, .inl (cA, n.toNatClampNeg, .inr (.inr (.inr (.inr (fun i => if i < n.toNatClampNeg then some (H.size + 1 + i) else none))))))]) F.heap := hP0.app (fun k9 x hx => by
    have h0 : k9 < 1 := (List.getElem?_eq_some_iff.mp hx).1
    rw [show k9 = 0 by omega] at hx
    cases hx
    exact f2)
  have hP2 : va_P D cl (((X ++ va_pl L f) ++ [(H.size, .inl (cA, n.toNatClampNeg, .inr (.inr (.inr (.inr (fun i => if i < n.toNatClampNeg then some (H.size + 1 + i) else none))))))]) ++ ((List.range n.toNatClampNeg).map (fun i => H.size + 1 + i)).map (fun a => (a, .inl (cy, z)))) F.heap := hP1.app (fun k9 x hx => by
    obtain ⟨a, ha, rfl⟩ := List.mem_map.mp (List.mem_of_getElem? hx)
    obtain ⟨i, hi, rfl⟩ := List.mem_map.mp ha
    exact hrow i (List.mem_range.mp hi))
  have hD2 : va_D A (((X ++ va_pl L f) ++ [(H.size, .inl (cA, n.toNatClampNeg, .inr (.inr (.inr (.inr (fun i => if i < n.toNatClampNeg then some (H.size + 1 + i) else none))))))]) ++ ((List.range n.toNatClampNeg).map (fun i => H.size + 1 + i)).map (fun a => (a, .inl (cy, z)))) := by
    have hD1 := hD.push (e := .inl (cA, n.toNatClampNeg, .inr (.inr (.inr (.inr (fun i => if i < n.toNatClampNeg then some (H.size + 1 + i) else none)))))) hP rfl (hA _ hS.1)
    generalize hW1 : (X ++ va_pl L f) ++ [(H.size, .inl (cA, n.toNatClampNeg, .inr (.inr (.inr (.inr (fun i => if i < n.toNatClampNeg then some (H.size + 1 + i) else none))))))] = W1 at hD1 hP1 ⊢
    have hle : ∀ (k9 : Nat) (x : Nat × va_E), W1[k9]? = some x → x.1 ≤ H.size := fun k9 x hx => by
      rw [← hW1] at hx
      by_cases hl : k9 < (X ++ va_pl L f).length
      · rw [List.getElem?_append_left hl] at hx
        exact Nat.le_of_lt ((hP k9 x hx).lt)
      · rw [List.getElem?_append_right (by omega)] at hx
        have h0 : k9 - (X ++ va_pl L f).length < 1 := (List.getElem?_eq_some_iff.mp hx).1
        rw [show k9 - (X ++ va_pl L f).length = 0 by omega] at hx
        cases hx
        exact Nat.le_refl _
    have hr : ∀ (k9 : Nat) (x : Nat × va_E), (((List.range n.toNatClampNeg).map (fun i => H.size + 1 + i)).map (fun a => ((a, .inl (cy, z)) : Nat × va_E)))[k9]? = some x → x.1 = H.size + 1 + k9 := fun k9 x hx => by
      rw [List.getElem?_map, List.getElem?_map] at hx
      by_cases h9 : k9 < n.toNatClampNeg
      · rw [List.getElem?_range h9] at hx
        cases hx
        rfl
      · have hn0 : (List.range n.toNatClampNeg)[k9]? = none := List.getElem?_eq_none (by rw [List.length_range]; omega)
        rw [hn0] at hx
        cases hx
    refine ⟨fun i j x y hi hj hxy => ?_, fun k9 x hx => ?_⟩
    · by_cases h1 : i < W1.length <;> by_cases h2 : j < W1.length
      · rw [List.getElem?_append_left h1] at hi
        rw [List.getElem?_append_left h2] at hj
        exact hD1.1 i j x y hi hj hxy
      · rw [List.getElem?_append_left h1] at hi
        rw [List.getElem?_append_right (by omega)] at hj
        have := hle _ _ hi
        have := hr _ _ hj
        omega
      · rw [List.getElem?_append_right (by omega)] at hi
        rw [List.getElem?_append_left h2] at hj
        have := hle _ _ hj
        have := hr _ _ hi
        omega
      · rw [List.getElem?_append_right (by omega)] at hi hj
        have := hr _ _ hi
        have := hr _ _ hj
        omega
    · by_cases h1 : k9 < W1.length
      · rw [List.getElem?_append_left h1] at hx
        exact hD1.2 k9 x hx
      · rw [List.getElem?_append_right (by omega)] at hx
        have := hr _ _ hx
        exact hA _ (by have := hS.1; omega)
  have hAr : ArrOfT s cA (.array ty) := fun N9 z9 => by
    obtain ⟨-, k9, hk9, cm9, hkk9⟩ := (hO 0 0 0).1
    exact ⟨(fun q hq => by cases hq), k9, hk9, cm9, hkk9⟩
  have hK2 : va_K D cl (tys ++ [(cA, .array ty)]) s := ⟨hK.1, fun k9 x hx => by
    by_cases hl : k9 < tys.length
    · rw [List.getElem?_append_left hl] at hx
      exact hK.2 k9 x hx
    · rw [List.getElem?_append_right (by omega)] at hx
      have h0 : k9 - tys.length < 1 := (List.getElem?_eq_some_iff.mp hx).1
      rw [show k9 - tys.length = 0 by omega] at hx
      cases hx
      exact ⟨hAr, fA⟩⟩
  obtain ⟨t, a1, b1⟩ := kk H.size (fun i => H.size + 1 + i) cA F.heap (fun i j _ _ h => by have h9 : H.size + 1 + i = H.size + 1 + j := h; omega) hnl hK2 (by rw [← vr_rows hnm]; exact vr_lay hP2) (by rw [← vr_rows hnm]; exact vr_layD hD2) ⟨by rw [f1]; have := hS.1; omega, fun x h1 h2 => (hold x (Nat.lt_of_lt_of_le h1 hS.1)).trans (hS.2.1 x h1 h2), hS.2.2⟩ F rfl X'
  refine ⟨t, step t ?_, b1⟩
  have e : T.heap.size = H.size := by rw [hT]
  rw [e]
  exact a1
end VGM
/-! ===== END ===== -/

/-! ===== BEGIN exceptions that leave a method, and their catching by the caller (launches without stack traces) ===== -/
section VXA
/-! The laws vx_back, vx_callV, vx_callS, vx_callSW, vx_throw0, vx_throwS follow proofs of the library, with one case more: JvmDerived/Free/Laws.lean (Back.of_free), Shelf42/LK1.lean (callV, callS), Shelf/KitTraced.lean (throwNew0V, throwNewS). -/
/-- where a method has thrown q: the class by its name, the cell, what was written, the world -/
def vx_T (XC : String → State → State → Prop) (st : State) (q : Addr) (t : State) (mc ms : Nat) (free : Addr → Prop) : Prop :=
  ∃ (E : String) (ce : Cell) (L : List Loc), XC E st t ∧ t.heap[q]? = some ce ∧ ce.vm = .none ∧ st.vm.findClass E = some ce.cls ∧ st.WarmedH t.vm ∧ st.sameButNew ({ t with vm := st.vm } : State) L mc ms ∧ ∀ z ∈ L, free z.base
def vx_Q (Qc : Array Value → State → Outcome → State → Prop) (XC : String → State → State → Prop) (mc ms : Nat) (free : Addr → Prop) : Array Value → State → Outcome → State → Prop := fun a st o t =>
  (Qc a st o t ∧ ∃ L, FrameEnd st o t L mc ms ∧ ∀ q ∈ L, free q.base) ∨ ∃ q, o = .threw q ∧ vx_T XC st q t mc ms free
/-- a callee that returns or throws -/
def vx_Met (l : Launch) (y : MethodName) (ws : List Cond) (rm : Room) (Pc : Array Value → State → Prop) (Qc : Array Value → State → Outcome → State → Prop) (XC : String → State → State → Prop) (mc ms : Nat) (free : Addr → Prop) : Prop :=
  MetFree l y (headSpec ws rm) Pc (fun _ _ _ _ _ => True) (vx_Q Qc XC mc ms free)
def vx_Post (XC : String → State → State → Prop) (mc ms : Nat) (free : Addr → Prop) : Pt → Array Value → Addr → Pt → Prop := fun A a q B =>
  ∃ (g : JFrame) (mk : MethodId) (t : State) (L : List Loc) (E : String) (ce : Cell), B.U.heap = t.heap ∧ B.U.vm = t.vm ∧ XC E (A.U.calling g mk a) t ∧ t.heap[q]? = some ce ∧ ce.vm = .none ∧ A.U.vm.findClass E = some ce.cls ∧ B.locs = A.locs ++ L ∧ (∀ z ∈ L, free z.base) ∧ B.cells = A.cells + mc ∧ B.slots = A.slots + ms
def vx_Back (l : Launch) (R : Room) (p : Program) (e : Env) (below : List Frame) (s : State) (sargs : Array Value) (y : MethodName) (len W9 : Nat)
    (Pre : Pt → Array Value → Prop) (Post : Pt → Array Value → Option Value → Pt → Prop) (PostX : Pt → Array Value → Addr → Pt → Prop) : Prop :=
  ∀ (m : MethodId) (meth : Method) (c : Code) (A : Pt) (g : JFrame) (ig : Instr) (mk : MethodId) (a : Array Value),
    Stand p l e R s m sargs below meth c A.U A.locs A.cells A.slots → g.method = m → g.locals.size = c.maxLocals → decode c.code g.pc = .ok (ig, len) →
    2 * g.monitorRoom + (g.stack.map fun v => v.category).sum ≤ W9 → A.U.methodNamed? y = some mk → Pre A a →
    (∃ (v : Option Value) (B : Pt), Stand p l e R s m sargs below meth c B.U B.locs B.cells B.slots ∧ Post A a v B ∧
      Steps p.tables e below (doInvoke e (A.U.setTop g) [] mk a).1 (B.U.setTop { g with pc := g.pc + len, stack := v.toList ++ g.stack })) ∨
    (∃ (q : Addr) (B : Pt), Stand p l e R s m sargs below meth c B.U B.locs B.cells B.slots ∧ PostX A a q B ∧
      Steps p.tables e below (doInvoke e (A.U.setTop g) [] mk a).1 ((B.U.setTop g).pushFrame (.throwing q)))
section Payer
variable {l : Launch} {R : Room} {p : Program} {e : Env} {below : List Frame} {s : State} {sargs : Array Value} {y : MethodName} {len W9 : Nat}
theorem vx_back {ws : List Cond} {rm : Room} {Pc : Array Value → State → Prop} {Qc : Array Value → State → Outcome → State → Prop} {XC : String → State → State → Prop} {mc ms : Nat} {free : Addr → Prop} {bytes : ByteArray} {maxL : Nat} {ret : Option FieldType}
    (hM : vx_Met l y ws rm Pc Qc XC mc ms free) (hblind : FrameBlind Pc) (hrc : rm.cells = mc) (hrs : rm.slots = ms)
    (hframes : rm.frames + 1 ≤ R.frames) (hlocals : W9 + (maxL + 11) + rm.locals ≤ R.locals)
    (hws : ∀ w ∈ ws, ∀ a' U, s.WarmedH U.vm → w.before a' U = true) (hcode : Cond.code y bytes maxL ret ∈ ws) (hinit : ∀ a' U, s.WarmedH U.vm → (Cond.initialized y.cls).before a' U = true) :
    vx_Back l R p e below s sargs y len W9 (PreOf R mc ms Pc) (PostOf Qc mc ms free) (vx_Post XC mc ms free) := by
  intro m meth c A g ig mk a X hg hsize hdg hW hn hp
  have h1 : (headSpec ws rm).pre.before a A.U = true := atoms_intro fun w hw => hws w hw _ _ X.warmed
  have h2 : (Cond.code y bytes maxL ret).before a A.U = true := hws _ hcode _ _ X.warmed
  have h3 : (Cond.initialized y.cls).before a A.U = true := hinit _ _ X.warmed
  have h4 : A.cells + (headSpec ws rm).room.cells ≤ R.cells := by rw [show (headSpec ws rm).room.cells = mc from hrc]; exact hp.1
  have h5 : A.slots + (headSpec ws rm).room.slots ≤ R.slots := by rw [show (headSpec ws rm).room.slots = ms from hrs]; exact hp.2.1
  have hPc : Pc a (A.U.calling g mk a) := hblind _ _ _ _ hp.2.2
  obtain ⟨U, Ls, c0, s0⟩ := A
  dsimp only [Pt.U, Pt.locs, Pt.cells, Pt.slots] at h1 h2 h3 h4 h5 X hn hPc ⊢
  obtain ⟨methY, cY, hmY, hcY, -, hlY, -, -, -, -⟩ := Cond.code_spec hn h2
  obtain ⟨kY, hkY, -⟩ := className_of_methodNamed hn
  have hinitY : kY.init = .initialized := Cond.initialized_spec (findClass_of_methodNamed hn) hkY h3
  have h : At U g.method c below := by rw [hg]; exact X.here
  have hlocals9 : W9 + (maxL + 11) + (headSpec ws rm).room.locals ≤ R.locals := hlocals
  have happ : (headSpec ws rm).appliesLoose y e.platform (U.calling g mk a) = true :=
    Spec.appliesLoose_calling (g := g) h hdg hn hkY hinitY
      (X.room_calling (g := g) (R' := (headSpec ws rm).room) hsize hmY hcY hframes (by rw [hlY]; omega) h4 h5) h1
  obtain ⟨mid, hmid⟩ := h.above
  have hfr : (U.setTop g).frames = (.java g :: mid) ++ below := by rw [State.frames_setTop' g h.top, hmid]; rfl
  obtain ⟨o, s₂, hsteps, -, hend, hq⟩ := Steps.callFree hM p X.admits X.cas X.clock (acts := []) hfr happ hPc trivial
  have hq' : vx_Q Qc XC mc ms free a (U.calling g mk a) o s₂ := hq
  rw [State.frames_setTop' g h.top] at hend
  obtain ⟨g₀, hg0⟩ := Option.isSome_iff_exists.mp h.top
  obtain ⟨r, hr⟩ := State.topJava?_eq_some.mp hg0
  have hr' : (({ U with heap := s₂.heap, slotsUsed := s₂.slotsUsed } : State).setVm s₂.vm).frames = .java g₀ :: r := hr
  rcases hq' with ⟨hqc, L, hfe, hL⟩ | ⟨q, rfl, E, ce, L, hx, hce, hcv, hcl, hW₂, hsm, hL⟩
  · obtain ⟨⟨v, rfl⟩, hW₂, e2, q2, q3, q4, q5, q6⟩ := id hfe
    have e3 : s₂ = ({ (U.calling g mk a).setFrames s₂.frames with heap := s₂.heap, slotsUsed := s₂.slotsUsed } : State).setVm s₂.vm := by
      have : s₂ = ({ s₂ with vm := (U.calling g mk a).vm } : State).setVm s₂.vm := rfl
      rw [e2] at this
      exact this
    obtain ⟨c₂, i₂, len₂, hc₂, hd₂, hf₂⟩ := hend
    have hW' : U.WarmedH s₂.vm := hW₂
    have hcc : c₂ = c := by
      have h1 : s₂.code? g.method = U.code? g.method := by
        rw [State.code?_eq, State.code?_eq, hW'.alike.method?]
      exact Option.some.inj (hc₂.symm.trans (h1.trans h.code))
    subst hcc
    have hlen : len₂ = len := by rw [hdg] at hd₂; cases hd₂; rfl
    subst hlen
    have hs₂ : s₂ = (({ U with heap := s₂.heap, slotsUsed := s₂.slotsUsed } : State).setVm s₂.vm).setTop { g with pc := g.pc + len₂, stack := v.toList ++ g.stack } := by
      refine e3.trans ?_
      rw [hf₂, State.calling_eq h.top, State.setFrames_setFrames, State.setTop_of_frames _ hr', hr]
      rfl
    have hsame : U.sameButNew ({ U with heap := s₂.heap, slotsUsed := s₂.slotsUsed } : State) L mc ms := by
      refine ⟨?_, q2, q3, q4, q5, q6⟩
      obtain ⟨t, ht, -⟩ := State.frames_cons hr
      show ({ U with heap := s₂.heap, slotsUsed := s₂.slotsUsed } : State) = { U.setFrames U.frames with heap := s₂.heap, slotsUsed := s₂.slotsUsed }
      rw [State.setFrames_self ht]
    subst hg
    refine Or.inl ⟨v, ⟨(({ U with heap := s₂.heap, slotsUsed := s₂.slotsUsed } : State).setVm s₂.vm), Ls ++ L, c0 + mc, s0 + ms⟩,
      ⟨X.admits, X.cas, X.clock, X.frames, X.room, X.hears, X.method, X.code, (X.here.setHeapUsed s₂.heap s₂.slotsUsed).setVm hW'.alike, X.tail, State.WarmedH.trans X.warmed hW', X.limits, X.bytes, X.same.trans (hsame.setVm s.vm)⟩,
      ⟨g, mk, s₂, L, rfl, rfl, hqc, rfl, hL, rfl, rfl⟩, ?_⟩
    show Steps p.tables e below _ ((({ U with heap := s₂.heap, slotsUsed := s₂.slotsUsed } : State).setVm s₂.vm).setTop { g with pc := g.pc + len₂, stack := v.toList ++ g.stack })
    rw [← hs₂]
    exact hsteps
  · obtain ⟨e2, q2, q3, q4, q5, q6⟩ := id hsm
    have e3 : s₂ = ({ (U.calling g mk a).setFrames s₂.frames with heap := s₂.heap, slotsUsed := s₂.slotsUsed } : State).setVm s₂.vm := by
      have : s₂ = ({ s₂ with vm := (U.calling g mk a).vm } : State).setVm s₂.vm := rfl
      rw [e2] at this
      exact this
    have hf₂ : s₂.frames = .throwing q :: .java g :: U.frames.tail := hend
    have hW' : U.WarmedH s₂.vm := hW₂
    have hs₂ : s₂ = ((({ U with heap := s₂.heap, slotsUsed := s₂.slotsUsed } : State).setVm s₂.vm).setTop g).pushFrame (.throwing q) := by
      refine e3.trans ?_
      rw [hf₂, State.calling_eq h.top, State.setFrames_setFrames, State.pushFrame, State.frames_setTop _ hr', State.setTop_of_frames _ hr', State.setFrames_setFrames, hr]
      rfl
    have hsame : U.sameButNew ({ U with heap := s₂.heap, slotsUsed := s₂.slotsUsed } : State) L mc ms := by
      refine ⟨?_, q2, q3, q4, q5, q6⟩
      obtain ⟨t, ht, -⟩ := State.frames_cons hr
      show ({ U with heap := s₂.heap, slotsUsed := s₂.slotsUsed } : State) = { U.setFrames U.frames with heap := s₂.heap, slotsUsed := s₂.slotsUsed }
      rw [State.setFrames_self ht]
    subst hg
    refine Or.inr ⟨q, ⟨(({ U with heap := s₂.heap, slotsUsed := s₂.slotsUsed } : State).setVm s₂.vm), Ls ++ L, c0 + mc, s0 + ms⟩,
      ⟨X.admits, X.cas, X.clock, X.frames, X.room, X.hears, X.method, X.code, (X.here.setHeapUsed s₂.heap s₂.slotsUsed).setVm hW'.alike, X.tail, State.WarmedH.trans X.warmed hW', X.limits, X.bytes, X.same.trans (hsame.setVm s.vm)⟩,
      ⟨g, mk, s₂, L, E, ce, rfl, rfl, hx, hce, hcv, hcl, rfl, hL, rfl, rfl⟩, ?_⟩
    show Steps p.tables e below _ (((({ U with heap := s₂.heap, slotsUsed := s₂.slotsUsed } : State).setVm s₂.vm).setTop g).pushFrame (.throwing q))
    rw [← hs₂]
    exact hsteps
end Payer
section Calls
variable {p : Program} {l : Launch} {e : Env} {R : Room} {s : State} {m : MethodId} {args : Array Value} {below : List Frame} {meth : Method} {c : Code} {T : State} {locs : List Loc} {cells slots : Nat}
theorem vx_callV (X : Stand p l e R s m args below meth c T locs cells slots) (hexec : p.tables.exec = Jvm.exec) {own C : String} {index : Nat} {y : MethodName} {bytes : ByteArray} {maxL : Nat} {ret : Option FieldType}
    (hown : s.vm.findClass own = some m.cls) (hlink : (Cond.methodLink own index y).before args s = true) (hinst : (Cond.instanceMethod y).before args s = true) (hsel : (Cond.selects C y y).before args s = true)
    (hcode : (Cond.code y bytes maxL ret).before args s = true) (hy : y.cls ≠ "java/lang/invoke/MethodHandle" ∧ y.cls ≠ "java/lang/invoke/VarHandle")
    {W9 : Nat} {Pre : Pt → Array Value → Prop} {Post : Pt → Array Value → Option Value → Pt → Prop} {PostX : Pt → Array Value → Addr → Pt → Prop} (hK : vx_Back l R p e below s args y 3 W9 Pre Post PostX)
    {b : Addr} {cellB : Cell} (hcell : T.heap[b]? = some cellB) (hobj : cellB.vm.isStatics = false) (hcls : s.vm.findClass C = some cellB.cls)
    {g : JFrame} (hg : g.method = m) (hsize : g.locals.size = c.maxLocals) {argsL rest : List Value} (hlen : ∀ sig, parseMethodDescriptor y.desc = some sig → argsL.length = sig.parameters.length)
    (hstack : g.stack = argsL.reverse ++ .ref b :: rest) (hW : 2 * g.monitorRoom + (rest.map fun v => v.category).sum ≤ W9) (hdg : decode c.code g.pc = .ok (.invokevirtual index, 3))
    (hpre : ∀ vm₁, s.WarmedH vm₁ → Pre ⟨T.setVm vm₁, locs, cells, slots⟩ (Value.ref b :: argsL).toArray) :
    (∃ (v : Option Value) (vm₁ : Vm) (B : Pt), s.WarmedH vm₁ ∧ Stand p l e R s m args below meth c B.U B.locs B.cells B.slots ∧ Post ⟨T.setVm vm₁, locs, cells, slots⟩ (Value.ref b :: argsL).toArray v B ∧
      ∀ target, Steps p.tables e below (B.U.setTop { g with pc := g.pc + 3, stack := v.toList ++ rest }) target → Steps p.tables e below (T.setTop g) target) ∨
    (∃ (q : Addr) (vm₁ : Vm) (B : Pt), s.WarmedH vm₁ ∧ Stand p l e R s m args below meth c B.U B.locs B.cells B.slots ∧ PostX ⟨T.setVm vm₁, locs, cells, slots⟩ (Value.ref b :: argsL).toArray q B ∧
      Steps p.tables e below (T.setTop g) ((B.U.setTop { g with stack := rest }).pushFrame (.throwing q))) := by
  obtain ⟨mk, methM, hnamed, hmethM, hstM, habM⟩ := Cond.instanceMethod_spec hinst
  obtain ⟨methM', cM, hmethM', -, -, -, -, -, -, hsigM⟩ := Cond.code_spec hnamed hcode
  cases hmethM.symm.trans hmethM'
  obtain ⟨c2, r2, m2, q1, q2, q3, q4, kP, hkP, hkPi⟩ := Cond.selects_spec hsel
  cases hcls.symm.trans q1
  cases (State.methodFound?_of_named hnamed hy).symm.trans q2
  cases hnamed.symm.trans q3
  have hselP : selectMethod e.platform s.vm cellB.cls mk = .method mk := by rw [Launch.admits_selectMethod X.admits]; exact q4
  obtain ⟨vm₁, X₁, hstep₁⟩ := X.invokevirtual hexec hown hlink hnamed hmethM hstM hkP hkPi hy (a := b) (cell := cellB) hcell
    (fun z h => by rw [h] at hobj; cases hobj) hselP hmethM habM hkP hkPi (g := g) hg (argsL := argsL) (rest := rest) (hlen _ hsigM) hstack hdg
  rcases hK m meth c ⟨T.setVm vm₁, locs, cells, slots⟩ { g with stack := rest } (.invokevirtual index) mk (Value.ref b :: argsL).toArray X₁ hg hsize hdg hW (X₁.named hnamed) (hpre vm₁ X₁.warmed) with ⟨v, B, X', hpost, hsteps⟩ | ⟨q, B, X', hpost, hsteps⟩
  · exact Or.inl ⟨v, vm₁, B, X₁.warmed, X', hpost, fun target h => hstep₁ _ fun acts => by rw [doInvoke_state]; exact hsteps.trans h⟩
  · exact Or.inr ⟨q, vm₁, B, X₁.warmed, X', hpost, hstep₁ _ fun acts => by rw [doInvoke_state]; exact hsteps⟩
theorem vx_callS (X : Stand p l e R s m args below meth c T locs cells slots) (hexec : p.tables.exec = Jvm.exec) {own : String} {index : Nat} {y : MethodName} {bytes : ByteArray} {maxL : Nat} {ret : Option FieldType}
    (hown : s.vm.findClass own = some m.cls) (hlink : (Cond.methodLink own index y).before args s = true) (hstat : (Cond.static y).before args s = true) (hinit : (Cond.initialized y.cls).before args s = true)
    (hcode : (Cond.code y bytes maxL ret).before args s = true) (hy : y.cls ≠ "java/lang/invoke/MethodHandle" ∧ y.cls ≠ "java/lang/invoke/VarHandle")
    {W9 : Nat} {Pre : Pt → Array Value → Prop} {Post : Pt → Array Value → Option Value → Pt → Prop} {PostX : Pt → Array Value → Addr → Pt → Prop} (hK : vx_Back l R p e below s args y 3 W9 Pre Post PostX)
    {g : JFrame} (hg : g.method = m) (hsize : g.locals.size = c.maxLocals) {argsL rest : List Value} (hlen : ∀ sig, parseMethodDescriptor y.desc = some sig → argsL.length = sig.parameters.length)
    (hstack : g.stack = argsL.reverse ++ rest) (hW : 2 * g.monitorRoom + (rest.map fun v => v.category).sum ≤ W9) (hdg : decode c.code g.pc = .ok (.invokestatic index, 3))
    (hpre : ∀ vm₁, s.WarmedH vm₁ → Pre ⟨T.setVm vm₁, locs, cells, slots⟩ argsL.toArray) :
    (∃ (v : Option Value) (vm₁ : Vm) (B : Pt), s.WarmedH vm₁ ∧ Stand p l e R s m args below meth c B.U B.locs B.cells B.slots ∧ Post ⟨T.setVm vm₁, locs, cells, slots⟩ argsL.toArray v B ∧
      ∀ target, Steps p.tables e below (B.U.setTop { g with pc := g.pc + 3, stack := v.toList ++ rest }) target → Steps p.tables e below (T.setTop g) target) ∨
    (∃ (q : Addr) (vm₁ : Vm) (B : Pt), s.WarmedH vm₁ ∧ Stand p l e R s m args below meth c B.U B.locs B.cells B.slots ∧ PostX ⟨T.setVm vm₁, locs, cells, slots⟩ argsL.toArray q B ∧
      Steps p.tables e below (T.setTop g) ((B.U.setTop { g with stack := rest }).pushFrame (.throwing q))) := by
  obtain ⟨mk, hnamed⟩ := Cond.code_named hcode
  obtain ⟨methM, cM, hmethM, -, -, -, -, -, -, hsigM⟩ := Cond.code_spec hnamed hcode
  have hstatic : methM.isStatic = true := Cond.static_spec hnamed hmethM hstat
  obtain ⟨kP, hkP, -⟩ := className_of_methodNamed hnamed
  have hinitP : kP.init = .initialized := Cond.initialized_spec (findClass_of_methodNamed hnamed) hkP hinit
  obtain ⟨vm₁, X₁, hstep₁⟩ := X.invokestatic hexec hown hlink hnamed hmethM hstatic hkP hinitP hy (g := g) hg (argsL := argsL) (rest := rest) (hlen _ hsigM) hstack hdg
  rcases hK m meth c ⟨T.setVm vm₁, locs, cells, slots⟩ { g with stack := rest } (.invokestatic index) mk argsL.toArray X₁ hg hsize hdg hW (X₁.named hnamed) (hpre vm₁ X₁.warmed) with ⟨v, B, X', hpost, hsteps⟩ | ⟨q, B, X', hpost, hsteps⟩
  · exact Or.inl ⟨v, vm₁, B, X₁.warmed, X', hpost, fun target h => hstep₁ _ fun acts => by rw [doInvoke_state]; exact hsteps.trans h⟩
  · exact Or.inr ⟨q, vm₁, B, X₁.warmed, X', hpost, hstep₁ _ fun acts => by rw [doInvoke_state]; exact hsteps⟩
end Calls
theorem vx_cls {s : State} {T : State} {vm₁ : Vm} {E : String} {k : ClassId} (hW : s.WarmedH vm₁) (h : (T.setVm vm₁).vm.findClass E = some k) : s.vm.findClass E = some k := by
  have h1 : vm₁.findClass E = some k := h
  rw [hW.alike.findClass] at h1
  exact h1
/-- the method's frame g, with q thrown over it -/
def vx_W (p : Program) (l : Launch) (e : Env) (R : Room) (s : State) (m : MethodId) (args : Array Value) (below : List Frame) (meth : Method) (c : Code) (H : Heap) (locs : List Loc) (cells slots : Nat) (Q : State → Prop) (g : JFrame) (q : Addr) : Prop :=
  ∀ T : State, T.heap = H → Stand p l e R s m args below meth c T locs cells slots → ∃ t, Steps p.tables e below ((T.setTop g).pushFrame (.throwing q)) t ∧ Q t
def vx_Run (p : Program) (l : Launch) (e : Env) (R : Room) (s : State) (m : MethodId) (args : Array Value) (below : List Frame) (meth : Method) (c : Code) (H : Heap) (locs : List Loc) (cells slots mc ms : Nat) (g : JFrame) (rest : List Value) (Qa : State → Outcome → State → Prop) (XC : String → State → State → Prop) (free : Addr → Prop) : Prop :=
  ∀ T : State, T.heap = H → Stand p l e R s m args below meth c T locs cells slots →
    (∃ (v : Option Value) (st₀ t T' : State) (L : List Loc), st₀.heap = H ∧ Stand p l e R s m args below meth c T' (locs ++ L) (cells + mc) (slots + ms) ∧ (∀ q ∈ L, free q.base) ∧ T'.heap = t.heap ∧ T'.vm = t.vm ∧ Qa st₀ (.returned v) t ∧
      Goes p e below T g T' { g with pc := g.pc + 3, stack := v.toList ++ rest }) ∨
    (∃ (q : Addr) (st₀ t T' : State) (L : List Loc) (E : String) (ce : Cell), st₀.heap = H ∧ Stand p l e R s m args below meth c T' (locs ++ L) (cells + mc) (slots + ms) ∧ (∀ z ∈ L, free z.base) ∧ T'.heap = t.heap ∧ T'.vm = t.vm ∧ XC E st₀ t ∧ t.heap[q]? = some ce ∧ ce.vm = .none ∧ s.vm.findClass E = some ce.cls ∧
      Steps p.tables e below (T.setTop g) ((T'.setTop { g with stack := rest }).pushFrame (.throwing q)))
def vx_X {S : Type} (px : S → Prop) (B : String → S → State → Prop) (A : Nat → Prop) : String → State → State → Prop := fun E st t => ∃ u : S, px u ∧ B E u t ∧ va_F A st t
section Runs
variable {p : Program} {l : Launch} {e : Env} {R : Room} {s : State} {m : MethodId} {args : Array Value} {below : List Frame} {meth : Method} {c : Code} {H : Heap} {locs : List Loc} {cells slots : Nat}
variable {y : MethodName} {bytes cc : ByteArray} {maxL nL mc ms n index : Nat} {ret : Option FieldType} {ws : List Cond} {rm : Room} {Pc : Array Value → State → Prop} {Qc : Array Value → State → Outcome → State → Prop} {XC : String → State → State → Prop} {free : Addr → Prop} {Ts : List Cond} {own C : String} {b : Addr} {As rest : List Value} {g : JFrame}
theorem vx_callBack (cb : CallB R s args own index y bytes maxL ret ws rm mc ms n) (hM : vx_Met l y ws rm Pc Qc XC mc ms free) (hbl : FrameBlind Pc) : vx_Back l R p e below s args y 3 8 (PreOf R mc ms Pc) (PostOf Qc mc ms free) (vx_Post XC mc ms free) := by
  obtain ⟨hrc, hrs, hfr, hlo, hws, hcw, -, hini, -⟩ := cb
  exact vx_back (bytes := bytes) (maxL := maxL) (ret := ret) hM hbl hrc hrs hfr hlo hws hcw (fun a' U hW => word_at hW (Or.inl (by first | rfl | simp [Cond.onTables, Cond.keeps, Cond.steady])) hini)
theorem vx_runV (S : CallFix p m c cc nL s args Ts own) (hM : vx_Met l y ws rm Pc Qc XC mc ms free) (cw : CallW R s args own C index y bytes maxL ret ws rm mc ms n) (hp : PreV s H C b Pc As)
    (hg : g.method = m) (hn : As.length = n) (hsize : g.locals.size = nL) (hstack : g.stack = As.reverse ++ .ref b :: rest) (hW : 2 * g.monitorRoom + (rest.map fun v => v.category).sum ≤ 8) (hdg : decode cc g.pc = .ok (.invokevirtual index, 3)) (hf : cells + mc ≤ R.cells ∧ slots + ms ≤ R.slots) :
    vx_Run p l e R s m args below meth c H locs cells slots mc ms g rest (Qc (Value.ref b :: As).toArray) XC free := by
  have hK : vx_Back l R p e below s args y 3 8 (PreOf R mc ms Pc) (PostOf Qc mc ms free) (vx_Post XC mc ms free) := vx_callBack cw.1 hM hp.1
  obtain ⟨⟨-, -, -, -, -, -, hcode, -, hy, hlen, hl⟩, hin, hse⟩ := cw
  obtain ⟨hx, hb, hml, ho, -⟩ := S
  obtain ⟨-, ⟨cellB, hcB, hoB, hclB⟩, hPc⟩ := hp
  intro T hT X
  rcases vx_callV X hx (C := C) (bytes := bytes) (maxL := maxL) (ret := ret) ho hl hin hse hcode hy hK (by rw [hT]; exact hcB) hoB hclB hg (hsize.trans hml.symm) (argsL := As) (rest := rest) (fun sig h => hn.trans (hlen sig h)) hstack hW (by rw [hb]; exact hdg)
    (fun vm₁ hW₁ => ⟨hf.1, hf.2, hPc (T.setVm vm₁) hT hW₁⟩) with ⟨v, vm₁, ⟨U', l2, c2, s2⟩, hW₁, X', ⟨g', mk, t, L, e1, e2, hq, h1, hL, h2, h3⟩, st⟩ | ⟨q, vm₁, ⟨U', l2, c2, s2⟩, hW₁, X', ⟨g', mk, t, L, E, ce, e1, e2, hq, hce, hcv, hcl, h1, hL, h2, h3⟩, st⟩
  · dsimp only [Pt.U, Pt.locs, Pt.cells, Pt.slots] at X' e1 e2 h1 h2 h3 st
    subst h1; subst h2; subst h3
    exact Or.inl ⟨v, (T.setVm vm₁).calling g' mk (Value.ref b :: As).toArray, t, U', L, hT, X', hL, e1, e2, hq, st⟩
  · dsimp only [Pt.U, Pt.locs, Pt.cells, Pt.slots] at X' e1 e2 h1 h2 h3 st hcl
    subst h1; subst h2; subst h3
    exact Or.inr ⟨q, (T.setVm vm₁).calling g' mk (Value.ref b :: As).toArray, t, U', L, E, ce, hT, X', hL, e1, e2, hq, hce, hcv, vx_cls hW₁ hcl, st⟩
theorem vx_runS (S : CallFix p m c cc nL s args Ts own) (hM : vx_Met l y ws rm Pc Qc XC mc ms free) (cw : CallB R s args own index y bytes maxL ret ws rm mc ms n ∧ (Cond.static y).before args s = true) (hp : PreS s H Pc As)
    (hg : g.method = m) (hn : As.length = n) (hsize : g.locals.size = nL) (hstack : g.stack = As.reverse ++ rest) (hW : 2 * g.monitorRoom + (rest.map fun v => v.category).sum ≤ 8) (hdg : decode cc g.pc = .ok (.invokestatic index, 3)) (hf : cells + mc ≤ R.cells ∧ slots + ms ≤ R.slots) :
    vx_Run p l e R s m args below meth c H locs cells slots mc ms g rest (Qc As.toArray) XC free := by
  have hK : vx_Back l R p e below s args y 3 8 (PreOf R mc ms Pc) (PostOf Qc mc ms free) (vx_Post XC mc ms free) := vx_callBack cw.1 hM hp.1
  obtain ⟨⟨-, -, -, -, -, -, hcode, hini, hy, hlen, hl⟩, hstt⟩ := cw
  obtain ⟨hx, hb, hml, ho, -⟩ := S
  intro T hT X
  rcases vx_callS X hx (bytes := bytes) (maxL := maxL) (ret := ret) ho hl hstt hini hcode hy hK hg (hsize.trans hml.symm) (argsL := As) (rest := rest) (fun sig h => hn.trans (hlen sig h)) hstack hW (by rw [hb]; exact hdg)
    (fun vm₁ hW₁ => ⟨hf.1, hf.2, hp.2 (T.setVm vm₁) hT hW₁⟩) with ⟨v, vm₁, ⟨U', l2, c2, s2⟩, hW₁, X', ⟨g', mk, t, L, e1, e2, hq, h1, hL, h2, h3⟩, st⟩ | ⟨q, vm₁, ⟨U', l2, c2, s2⟩, hW₁, X', ⟨g', mk, t, L, E, ce, e1, e2, hq, hce, hcv, hcl, h1, hL, h2, h3⟩, st⟩
  · dsimp only [Pt.U, Pt.locs, Pt.cells, Pt.slots] at X' e1 e2 h1 h2 h3 st
    subst h1; subst h2; subst h3
    exact Or.inl ⟨v, (T.setVm vm₁).calling g' mk As.toArray, t, U', L, hT, X', hL, e1, e2, hq, st⟩
  · dsimp only [Pt.U, Pt.locs, Pt.cells, Pt.slots] at X' e1 e2 h1 h2 h3 st hcl
    subst h1; subst h2; subst h3
    exact Or.inr ⟨q, (T.setVm vm₁).calling g' mk As.toArray, t, U', L, E, ce, hT, X', hL, e1, e2, hq, hce, hcv, vx_cls hW₁ hcl, st⟩
end Runs
section Rows
variable {p : Program} {l : Launch} {e : Env} {R : Room} {s : State} {m : MethodId} {args : Array Value} {below : List Frame} {meth : Method} {c : Code} {H : Heap} {locs : List Loc} {cells slots : Nat} {Q : State → Prop}
variable {mc ms : Nat} {free : Addr → Prop} {A0 A1 : Nat → Prop} {H0 : Heap} {a : Array Value} {pc : Nat} {ls : Array Slot} {st0 rest : List Value}
theorem vx_keep {st₀ t T' : State} {L : List Loc} (h0 : st₀.heap = H) (e1 : T'.heap = t.heap) (hS : va_S A0 H0 H locs) (hA : ∀ q, q < H.size → A1 q → A0 q) (hf : ∀ q, free q → A0 q) (hL : ∀ q ∈ L, free q.base) (hF : va_F A1 st₀ t) :
    H.size ≤ T'.heap.size ∧ (∀ q : Nat, q < H.size → ¬ A1 q → T'.heap[q]? = H[q]?) ∧ va_S A0 H0 T'.heap (locs ++ L) := by
  obtain ⟨hz, hk⟩ := hF
  rw [h0] at hz hk
  exact ⟨by rw [e1]; exact hz, fun q h1 h2 => by rw [e1]; exact hk q h1 h2,
    ⟨Nat.le_trans hS.1 (by rw [e1]; exact hz), fun q h1 h2 => by rw [e1, hk q (Nat.lt_of_lt_of_le h1 hS.1) (fun z => h2 (hA q (Nat.lt_of_lt_of_le h1 hS.1) z))]; exact hS.2.1 q h1 h2, fun q hq => by
      rcases List.mem_append.mp hq with h | h
      · exact hS.2.2 q h
      · exact hf _ (hL q h)⟩⟩
theorem vx_calli {S SX : Type} {post : Int32 → S → Prop} {px : SX → Prop} {B : S → State → Prop} {BX : String → SX → State → Prop} {AX : Nat → Prop} (hr : vx_Run p l e R s m args below meth c H locs cells slots mc ms (F0 m pc ls st0) rest (va_Qi post B A1 a) (vx_X px BX AX) free) (hS : va_S A0 H0 H locs) (hA : ∀ q, q < H.size → A1 q → A0 q) (hf : ∀ q, free q → A0 q) (hAX : ∀ q, q < H.size → AX q → A0 q)
    (kx : ∀ (E : String) (ce : Cell) (q9 : Addr) (u : SX) (t : State) (H1 : Heap) (locs1 : List Loc), t.heap = H1 → s.vm.Alike t.vm → px u → BX E u t → H.size ≤ H1.size → (∀ q : Nat, q < H.size → ¬ AX q → H1[q]? = H[q]?) → va_S A0 H0 H1 locs1 → H1[q9]? = some ce → ce.vm = .none → s.vm.findClass E = some ce.cls → vx_W p l e R s m args below meth c H1 locs1 (cells + mc) (slots + ms) Q (F0 m pc ls rest) q9)
    (kk : ∀ (r : Int32) (u : S) (t : State) (H1 : Heap) (locs1 : List Loc), t.heap = H1 → s.vm.Alike t.vm → post r u → B u t → H.size ≤ H1.size → (∀ q : Nat, q < H.size → ¬ A1 q → H1[q]? = H[q]?) → va_S A0 H0 H1 locs1 → W p l e R s m args below meth c H1 locs1 (cells + mc) (slots + ms) Q (F0 m (pc + 3) ls (.int r :: rest))) : W p l e R s m args below meth c H locs cells slots Q (F0 m pc ls st0) := by
  intro T hT X
  rcases hr T hT X with ⟨v, st₀, t, T', L, h0, X', hL, e1, e2, ⟨⟨r, u, hv, hp, hb⟩, hF⟩, st⟩ | ⟨q, st₀, t, T', L, E, ce, h0, X', hL, e1, e2, ⟨u, hp, hb, hF⟩, hce, hcv, hcl, st⟩
  · cases hv
    obtain ⟨k1, k2, k3⟩ := vx_keep h0 e1 hS hA hf hL hF
    obtain ⟨t2, a1, b1⟩ := kk r u t T'.heap (locs ++ L) e1.symm (by rw [← e2]; exact X'.warmed.alike) hp hb k1 k2 k3 T' rfl X'
    exact ⟨t2, st t2 a1, b1⟩
  · obtain ⟨k1, k2, k3⟩ := vx_keep h0 e1 hS hAX hf hL hF
    obtain ⟨t2, a1, b1⟩ := kx E ce q u t T'.heap (locs ++ L) e1.symm (by rw [← e2]; exact X'.warmed.alike) hp hb k1 k2 k3 (by rw [e1]; exact hce) hcv hcl T' rfl X'
    exact ⟨t2, st.trans a1, b1⟩
theorem vx_calll {S SX : Type} {post : Int64 → S → Prop} {px : SX → Prop} {B : S → State → Prop} {BX : String → SX → State → Prop} {AX : Nat → Prop} (hr : vx_Run p l e R s m args below meth c H locs cells slots mc ms (F0 m pc ls st0) rest (va_Ql post B A1 a) (vx_X px BX AX) free) (hS : va_S A0 H0 H locs) (hA : ∀ q, q < H.size → A1 q → A0 q) (hf : ∀ q, free q → A0 q) (hAX : ∀ q, q < H.size → AX q → A0 q)
    (kx : ∀ (E : String) (ce : Cell) (q9 : Addr) (u : SX) (t : State) (H1 : Heap) (locs1 : List Loc), t.heap = H1 → s.vm.Alike t.vm → px u → BX E u t → H.size ≤ H1.size → (∀ q : Nat, q < H.size → ¬ AX q → H1[q]? = H[q]?) → va_S A0 H0 H1 locs1 → H1[q9]? = some ce → ce.vm = .none → s.vm.findClass E = some ce.cls → vx_W p l e R s m args below meth c H1 locs1 (cells + mc) (slots + ms) Q (F0 m pc ls rest) q9)
    (kk : ∀ (r : Int64) (u : S) (t : State) (H1 : Heap) (locs1 : List Loc), t.heap = H1 → s.vm.Alike t.vm → post r u → B u t → H.size ≤ H1.size → (∀ q : Nat, q < H.size → ¬ A1 q → H1[q]? = H[q]?) → va_S A0 H0 H1 locs1 → W p l e R s m args below meth c H1 locs1 (cells + mc) (slots + ms) Q (F0 m (pc + 3) ls (.long r :: rest))) : W p l e R s m args below meth c H locs cells slots Q (F0 m pc ls st0) := by
  intro T hT X
  rcases hr T hT X with ⟨v, st₀, t, T', L, h0, X', hL, e1, e2, ⟨⟨r, u, hv, hp, hb⟩, hF⟩, st⟩ | ⟨q, st₀, t, T', L, E, ce, h0, X', hL, e1, e2, ⟨u, hp, hb, hF⟩, hce, hcv, hcl, st⟩
  · cases hv
    obtain ⟨k1, k2, k3⟩ := vx_keep h0 e1 hS hA hf hL hF
    obtain ⟨t2, a1, b1⟩ := kk r u t T'.heap (locs ++ L) e1.symm (by rw [← e2]; exact X'.warmed.alike) hp hb k1 k2 k3 T' rfl X'
    exact ⟨t2, st t2 a1, b1⟩
  · obtain ⟨k1, k2, k3⟩ := vx_keep h0 e1 hS hAX hf hL hF
    obtain ⟨t2, a1, b1⟩ := kx E ce q u t T'.heap (locs ++ L) e1.symm (by rw [← e2]; exact X'.warmed.alike) hp hb k1 k2 k3 (by rw [e1]; exact hce) hcv hcl T' rfl X'
    exact ⟨t2, st.trans a1, b1⟩
theorem vx_callf {S SX : Type} {post : UInt32 → S → Prop} {px : SX → Prop} {B : S → State → Prop} {BX : String → SX → State → Prop} {AX : Nat → Prop} (hr : vx_Run p l e R s m args below meth c H locs cells slots mc ms (F0 m pc ls st0) rest (va_Qf post B A1 a) (vx_X px BX AX) free) (hS : va_S A0 H0 H locs) (hA : ∀ q, q < H.size → A1 q → A0 q) (hf : ∀ q, free q → A0 q) (hAX : ∀ q, q < H.size → AX q → A0 q)
    (kx : ∀ (E : String) (ce : Cell) (q9 : Addr) (u : SX) (t : State) (H1 : Heap) (locs1 : List Loc), t.heap = H1 → s.vm.Alike t.vm → px u → BX E u t → H.size ≤ H1.size → (∀ q : Nat, q < H.size → ¬ AX q → H1[q]? = H[q]?) → va_S A0 H0 H1 locs1 → H1[q9]? = some ce → ce.vm = .none → s.vm.findClass E = some ce.cls → vx_W p l e R s m args below meth c H1 locs1 (cells + mc) (slots + ms) Q (F0 m pc ls rest) q9)
    (kk : ∀ (r : UInt32) (u : S) (t : State) (H1 : Heap) (locs1 : List Loc), t.heap = H1 → s.vm.Alike t.vm → post r u → B u t → H.size ≤ H1.size → (∀ q : Nat, q < H.size → ¬ A1 q → H1[q]? = H[q]?) → va_S A0 H0 H1 locs1 → W p l e R s m args below meth c H1 locs1 (cells + mc) (slots + ms) Q (F0 m (pc + 3) ls (.float r :: rest))) : W p l e R s m args below meth c H locs cells slots Q (F0 m pc ls st0) := by
  intro T hT X
  rcases hr T hT X with ⟨v, st₀, t, T', L, h0, X', hL, e1, e2, ⟨⟨r, u, hv, hp, hb⟩, hF⟩, st⟩ | ⟨q, st₀, t, T', L, E, ce, h0, X', hL, e1, e2, ⟨u, hp, hb, hF⟩, hce, hcv, hcl, st⟩
  · cases hv
    obtain ⟨k1, k2, k3⟩ := vx_keep h0 e1 hS hA hf hL hF
    obtain ⟨t2, a1, b1⟩ := kk r u t T'.heap (locs ++ L) e1.symm (by rw [← e2]; exact X'.warmed.alike) hp hb k1 k2 k3 T' rfl X'
    exact ⟨t2, st t2 a1, b1⟩
  · obtain ⟨k1, k2, k3⟩ := vx_keep h0 e1 hS hAX hf hL hF
    obtain ⟨t2, a1, b1⟩ := kx E ce q u t T'.heap (locs ++ L) e1.symm (by rw [← e2]; exact X'.warmed.alike) hp hb k1 k2 k3 (by rw [e1]; exact hce) hcv hcl T' rfl X'
    exact ⟨t2, st.trans a1, b1⟩
theorem vx_calld {S SX : Type} {post : UInt64 → S → Prop} {px : SX → Prop} {B : S → State → Prop} {BX : String → SX → State → Prop} {AX : Nat → Prop} (hr : vx_Run p l e R s m args below meth c H locs cells slots mc ms (F0 m pc ls st0) rest (va_Qd post B A1 a) (vx_X px BX AX) free) (hS : va_S A0 H0 H locs) (hA : ∀ q, q < H.size → A1 q → A0 q) (hf : ∀ q, free q → A0 q) (hAX : ∀ q, q < H.size → AX q → A0 q)
    (kx : ∀ (E : String) (ce : Cell) (q9 : Addr) (u : SX) (t : State) (H1 : Heap) (locs1 : List Loc), t.heap = H1 → s.vm.Alike t.vm → px u → BX E u t → H.size ≤ H1.size → (∀ q : Nat, q < H.size → ¬ AX q → H1[q]? = H[q]?) → va_S A0 H0 H1 locs1 → H1[q9]? = some ce → ce.vm = .none → s.vm.findClass E = some ce.cls → vx_W p l e R s m args below meth c H1 locs1 (cells + mc) (slots + ms) Q (F0 m pc ls rest) q9)
    (kk : ∀ (r : UInt64) (u : S) (t : State) (H1 : Heap) (locs1 : List Loc), t.heap = H1 → s.vm.Alike t.vm → post r u → B u t → H.size ≤ H1.size → (∀ q : Nat, q < H.size → ¬ A1 q → H1[q]? = H[q]?) → va_S A0 H0 H1 locs1 → W p l e R s m args below meth c H1 locs1 (cells + mc) (slots + ms) Q (F0 m (pc + 3) ls (.double r :: rest))) : W p l e R s m args below meth c H locs cells slots Q (F0 m pc ls st0) := by
  intro T hT X
  rcases hr T hT X with ⟨v, st₀, t, T', L, h0, X', hL, e1, e2, ⟨⟨r, u, hv, hp, hb⟩, hF⟩, st⟩ | ⟨q, st₀, t, T', L, E, ce, h0, X', hL, e1, e2, ⟨u, hp, hb, hF⟩, hce, hcv, hcl, st⟩
  · cases hv
    obtain ⟨k1, k2, k3⟩ := vx_keep h0 e1 hS hA hf hL hF
    obtain ⟨t2, a1, b1⟩ := kk r u t T'.heap (locs ++ L) e1.symm (by rw [← e2]; exact X'.warmed.alike) hp hb k1 k2 k3 T' rfl X'
    exact ⟨t2, st t2 a1, b1⟩
  · obtain ⟨k1, k2, k3⟩ := vx_keep h0 e1 hS hAX hf hL hF
    obtain ⟨t2, a1, b1⟩ := kx E ce q u t T'.heap (locs ++ L) e1.symm (by rw [← e2]; exact X'.warmed.alike) hp hb k1 k2 k3 (by rw [e1]; exact hce) hcv hcl T' rfl X'
    exact ⟨t2, st.trans a1, b1⟩
theorem vx_callv {S SX : Type} {post : S → Prop} {px : SX → Prop} {B : S → State → Prop} {BX : String → SX → State → Prop} {AX : Nat → Prop} (hr : vx_Run p l e R s m args below meth c H locs cells slots mc ms (F0 m pc ls st0) rest (va_Qv post B A1 a) (vx_X px BX AX) free) (hS : va_S A0 H0 H locs) (hA : ∀ q, q < H.size → A1 q → A0 q) (hf : ∀ q, free q → A0 q) (hAX : ∀ q, q < H.size → AX q → A0 q)
    (kx : ∀ (E : String) (ce : Cell) (q9 : Addr) (u : SX) (t : State) (H1 : Heap) (locs1 : List Loc), t.heap = H1 → s.vm.Alike t.vm → px u → BX E u t → H.size ≤ H1.size → (∀ q : Nat, q < H.size → ¬ AX q → H1[q]? = H[q]?) → va_S A0 H0 H1 locs1 → H1[q9]? = some ce → ce.vm = .none → s.vm.findClass E = some ce.cls → vx_W p l e R s m args below meth c H1 locs1 (cells + mc) (slots + ms) Q (F0 m pc ls rest) q9)
    (kk : ∀ (u : S) (t : State) (H1 : Heap) (locs1 : List Loc), t.heap = H1 → s.vm.Alike t.vm → post u → B u t → H.size ≤ H1.size → (∀ q : Nat, q < H.size → ¬ A1 q → H1[q]? = H[q]?) → va_S A0 H0 H1 locs1 → W p l e R s m args below meth c H1 locs1 (cells + mc) (slots + ms) Q (F0 m (pc + 3) ls (rest))) : W p l e R s m args below meth c H locs cells slots Q (F0 m pc ls st0) := by
  intro T hT X
  rcases hr T hT X with ⟨v, st₀, t, T', L, h0, X', hL, e1, e2, ⟨⟨u, hv, hp, hb⟩, hF⟩, st⟩ | ⟨q, st₀, t, T', L, E, ce, h0, X', hL, e1, e2, ⟨u, hp, hb, hF⟩, hce, hcv, hcl, st⟩
  · cases hv
    obtain ⟨k1, k2, k3⟩ := vx_keep h0 e1 hS hA hf hL hF
    obtain ⟨t2, a1, b1⟩ := kk u t T'.heap (locs ++ L) e1.symm (by rw [← e2]; exact X'.warmed.alike) hp hb k1 k2 k3 T' rfl X'
    exact ⟨t2, st t2 a1, b1⟩
  · obtain ⟨k1, k2, k3⟩ := vx_keep h0 e1 hS hAX hf hL hF
    obtain ⟨t2, a1, b1⟩ := kx E ce q u t T'.heap (locs ++ L) e1.symm (by rw [← e2]; exact X'.warmed.alike) hp hb k1 k2 k3 (by rw [e1]; exact hce) hcv hcl T' rfl X'
    exact ⟨t2, st.trans a1, b1⟩
/-- caught by the row x of this method's table; the rows ahead don't take it -/
theorem vx_catch {own name : String} {E : String} {ce : Cell} {q : Addr} (hown : s.vm.findClass own = some m.cls) (pre : List ExceptionTableEntry) (x : ExceptionTableEntry) (suf : List ExceptionTableEntry) (hsplit : c.exceptionTable.toList = pre ++ x :: suf)
    (hpass : ∀ z ∈ pre, covers z pc = false ∨ (z.catchType ≠ 0 ∧ ∃ nm : String, (Cond.classLink own z.catchType nm).before args s = true ∧ va_Nc E nm s)) (hx : covers x pc = true) (h0 : x.catchType ≠ 0)
    (hlink : (Cond.classLink own x.catchType name).before args s = true) (hcast : (Cond.castable E name).before args s = true) (hcell : H[q]? = some ce) (hv : ce.vm = .none) (hcl : s.vm.findClass E = some ce.cls)
    (kk : W p l e R s m args below meth c H locs cells slots Q (F0 m x.handlerPc ls [.ref q])) : vx_W p l e R s m args below meth c H locs cells slots Q (F0 m pc ls rest) q := by
  intro T hT X
  have hpl : e.platform.magicAccessors = ({} : Platform).magicAccessors := by rw [X.admits.platform]
  obtain ⟨c3, c4, hc3, hc4, hasg⟩ := Cond.castable_spec hcast
  cases Option.some.inj (hc3.symm.trans hcl)
  obtain ⟨c5, hc5, hcl5⟩ := Cond.classLink_spec hown hlink e.platform hpl
  cases Option.some.inj (hc4.symm.trans hc5)
  obtain ⟨vm', X', st⟩ := X.thenCaughtThrough q (g := F0 m pc ls rest) rfl (Steps.refl _) (by rw [hT]; exact hcell) (by rw [hv]; rfl) (by obtain ⟨k9, h9, -⟩ := Vm.findClass_spec hcl; exact ⟨k9, h9⟩) pre x suf hsplit
    (fun z hz => by
      rcases hpass z hz with h | ⟨hz0, nm, hl1, hn1⟩
      · exact Or.inl h
      · obtain ⟨c6, hc6, hcl6⟩ := Cond.classLink_spec hown hl1 e.platform hpl
        obtain ⟨a8, b8, h1, h2, h3⟩ := hn1
        cases Option.some.inj (h1.symm.trans hcl)
        cases Option.some.inj (h2.symm.trans hc6)
        exact Or.inr ⟨hz0, _, hcl6, h3⟩) hx (Or.inr ⟨h0, c4, hcl5, hasg⟩)
  obtain ⟨t, a1, b1⟩ := kk (T.setVm vm') hT X'
  exact ⟨t, st.trans a1, b1⟩
end Rows
section Ends
variable {p : Program} {l : Launch} {e : Env} {R : Room} {s : State} {m : MethodId} {args : Array Value} {below : List Frame} {meth : Method} {c : Code} {H : Heap} {locs : List Loc} {cells slots : Nat} {Q : State → Prop}
variable {mc ms : Nat} {free : Addr → Prop} {A0 A1 : Nat → Prop} {H0 : Heap} {a : Array Value} {ls : Array Slot} {st0 rest : List Value}
variable {Qc : Array Value → State → Outcome → State → Prop} {XC : String → State → State → Prop}
/-- what a body that may throw owes at its end -/
def vx_MQ (below : List Frame) (Qc : Array Value → State → Outcome → State → Prop) (XC : String → State → State → Prop) (a : Array Value) (s : State) (mc ms : Nat) (free : Addr → Prop) : State → Prop := fun t =>
  ∃ o, t.status = .running ∧ Ended t below o ∧ vx_Q Qc XC mc ms free a s o t
theorem vx_ret {g : JFrame} {mc ms : Nat} (k : W p l e R s m args below meth c H locs cells slots (MQ below Qc args s mc ms free) g) : W p l e R s m args below meth c H locs cells slots (vx_MQ below Qc XC args s mc ms free) g := by
  intro T hT X
  obtain ⟨t, a1, o, b1, b2, b3, b4⟩ := k T hT X
  exact ⟨t, a1, o, b1, b2, Or.inl ⟨b3, b4⟩⟩
/-- not caught here: it goes on to the caller -/
theorem vx_widen {g : JFrame} {q : Addr} {k n : Nat} (h1 : cells ≤ k) (h2 : slots ≤ n) (kk : vx_W p l e R s m args below meth c H locs k n Q g q) : vx_W p l e R s m args below meth c H locs cells slots Q g q := fun T hT X => kk T hT (stand_widen X h1 h2)
theorem vx_out {pc : Nat} {E : String} {ce : Cell} {q : Addr} {mc ms : Nat} (hout : ∀ x ∈ c.exceptionTable.toList, covers x pc = false) (hlocks : meth.locks = false) (hcell : H[q]? = some ce) (hv : ce.vm = .none) (hcl : s.vm.findClass E = some ce.cls)
    (hx : ∀ t : State, t.heap = H → s.vm.Alike t.vm → XC E s t) (hf : ∀ z ∈ locs, free z.base) (hc : cells ≤ mc) (hs : slots ≤ ms) :
    vx_W p l e R s m args below meth c H locs cells slots (vx_MQ below Qc XC args s mc ms free) (F0 m pc ls rest) q := by
  intro T hT X
  obtain ⟨st1, hrun, hend, hW, hsm⟩ := X.leaveThrown q (g := F0 m pc ls rest) rfl rfl rfl hout hlocks
  have hcell9 : (T.setFrames (.throwing q :: below)).heap[q]? = some ce := by
    show T.heap[q]? = some ce
    rw [hT]; exact hcell
  exact ⟨_, st1, .threw q, hrun, hend, Or.inr ⟨q, rfl, E, ce, locs, hx _ hT hW.alike, hcell9, hv, hcl, hW, hsm.mono hc hs, hf⟩⟩
theorem vx_frame {U : State} {k n : Nat} (h : s.sameButNew ({ U with vm := s.vm } : State) locs k n) : s.heap.size ≤ U.heap.size ∧ ∀ q : Nat, q < s.heap.size → (∀ z ∈ locs, z.base ≠ q) → U.heap[q]? = s.heap[q]? := by
  obtain ⟨-, h2, -, -, -, h6⟩ := h
  refine ⟨h2, fun q hq hz => ?_⟩
  obtain ⟨c9, e1, e2, e3, e4⟩ := h6 q _ (Array.getElem?_eq_getElem hq)
  have hs : c9.slots = (s.heap[q]).slots := Array.ext_getElem? fun i => e4 i fun hm => hz _ hm rfl
  have h9 : c9 = s.heap[q] := by
    rw [hs] at e2
    exact e2
  have e5 : U.heap[q]? = some c9 := e1
  rw [e5, h9, Array.getElem?_eq_getElem hq]
/-- the words of a throw but the four that speak of the heap -/
def vx_no (w : Cond) : Bool := decide (w ≠ .isRef (.static Bundle.tN "UNASSIGNED_STACK" Bundle.steD)) && decide (w ≠ .isRef (.static Bundle.tN "SUPPRESSED_SENTINEL" Bundle.listD)) && decide (w ≠ .laysStatic Bundle.tN "UNASSIGNED_STACK" Bundle.steD) && decide (w ≠ .laysStatic Bundle.tN "SUPPRESSED_SENTINEL" Bundle.listD)
def vx_at0 (own : String) (ic : Nat) (X : String) (names : List String) : List Cond := (Bundle.ownAtoms0 own ic X names).filter vx_no
def vx_atS (own : String) (ic : Nat) (X : String) (names : List String) : List Cond := (Bundle.ownAtoms own ic X names).filter vx_no
/-- a word that the tables alone decide, or a good one -/
def vx_ot (w : Cond) : Bool := w.onTables || goodWord w
theorem vx_ot_at {args a' : Array Value} {s U : State} {w : Cond} (hW : s.WarmedH U.vm) (hvm : s.vm = U.vm) (hg : vx_ot w = true) (h : w.before args s = true) : w.before a' U = true := by
  simp only [vx_ot, Bool.or_eq_true] at hg
  rcases hg with hg | hg
  · exact va_tabs hg hvm h
  · exact word_at hW (good_of_word hg) h
/-- a list's words: the good ones out of the method's own list, the others by premises of their own -/
theorem vx_hat {args : Array Value} {s : State} {L B : List Cond} (h1 : ∀ w ∈ L.filter goodWord, w.before args s = true) (h2 : ∀ w ∈ L.filter (fun w => !goodWord w), w ∈ B) (h3 : ∀ w ∈ B, w.before args s = true) : ∀ w ∈ L, w.before args s = true := by
  intro w hw
  by_cases g : goodWord w = true
  · exact h1 w (List.mem_filter.mpr ⟨hw, g⟩)
  · refine h3 w (h2 w (List.mem_filter.mpr ⟨hw, ?_⟩))
    show (!goodWord w) = true
    cases hgw : goodWord w
    · rfl
    · exact absurd hgw g
theorem vx_c {args : Array Value} {s : State} {w : Cond} {B : List Cond} (h : w.before args s = true) (t : ∀ w ∈ B, w.before args s = true) : ∀ w' ∈ w :: B, w'.before args s = true := fun w' h' => (List.mem_cons.mp h').elim (fun e => by rw [e]; exact h) (t w')
theorem vx_n {args : Array Value} {s : State} : ∀ w ∈ ([] : List Cond), w.before args s = true := fun _ h => nomatch h
theorem vx_own {args : Array Value} {s : State} {L : List Cond} (h1 : ∀ w ∈ L.filter vx_no, w.before args s = true)
    (hU : (Cond.isRef (.static Bundle.tN "UNASSIGNED_STACK" Bundle.steD)).before args s = true) (hN : (Cond.isRef (.static Bundle.tN "SUPPRESSED_SENTINEL" Bundle.listD)).before args s = true)
    (lU : (Cond.laysStatic Bundle.tN "UNASSIGNED_STACK" Bundle.steD).before args s = true) (lN : (Cond.laysStatic Bundle.tN "SUPPRESSED_SENTINEL" Bundle.listD).before args s = true) : ∀ w ∈ L, w.before args s = true := by
  intro w hw
  by_cases e1 : w = .isRef (.static Bundle.tN "UNASSIGNED_STACK" Bundle.steD)
  · rw [e1]; exact hU
  · by_cases e2 : w = .isRef (.static Bundle.tN "SUPPRESSED_SENTINEL" Bundle.listD)
    · rw [e2]; exact hN
    · by_cases e3 : w = .laysStatic Bundle.tN "UNASSIGNED_STACK" Bundle.steD
      · rw [e3]; exact lU
      · by_cases e4 : w = .laysStatic Bundle.tN "SUPPRESSED_SENTINEL" Bundle.listD
        · rw [e4]; exact lN
        · exact h1 w (List.mem_filter.mpr ⟨hw, by unfold vx_no; rw [decide_eq_true e1, decide_eq_true e2, decide_eq_true e3, decide_eq_true e4]; rfl⟩)
/-- where a static field lies, its class's statics cell in H -/
def vx_L (C n d : String) (A : Nat → Prop) (U : State) (H : Heap) : Prop := ∃ (c : ClassId) (k : Class) (i : Nat) (f : Field) (a : Nat) (cell : Cell), U.vm.findClass C = some c ∧ U.fieldFound? C n d = some (c, k, i, f) ∧ f.isStatic = true ∧ k.statics = some a ∧ H[a]? = some cell ∧ cell.vm.isStatics = true ∧ cell.cls = c ∧ f.slot < cell.slots.size ∧ k.staticTypes[f.slot]? = some f.type ∧ ¬ A a
theorem vx_L.moved {C n d : String} {A : Nat → Prop} {u U : State} {H : Heap} (hvm : u.vm.Alike U.vm) (h : vx_L C n d A u H) : vx_L C n d A U H := by
  obtain ⟨c, k, i, f, a, cell, h1, h2, h3, h4, h5, h6, h7, h8, h9, h10⟩ := h
  obtain ⟨k', hi', he⟩ := State.fieldFound?_setVm hvm h2
  exact ⟨c, k', i, f, a, cell, by rw [hvm.findClass]; exact h1, hi', h3, by rw [he]; exact h4, h5, h6, h7, h8, by rw [he]; exact h9, h10⟩
theorem vx_L.kept {C n d : String} {A : Nat → Prop} {U : State} {H H1 : Heap} (h : vx_L C n d A U H) (hq : ∀ a : Nat, a < H.size → ¬ A a → H1[a]? = H[a]?) : vx_L C n d A U H1 := by
  obtain ⟨c, k, i, f, a, cell, h1, h2, h3, h4, h5, h6, h7, h8, h9, h10⟩ := h
  exact ⟨c, k, i, f, a, cell, h1, h2, h3, h4, by rw [hq a (Array.getElem?_eq_some_iff.mp h5).1 h10]; exact h5, h6, h7, h8, h9, h10⟩
theorem vx_L.narrow {C n d : String} {A B : Nat → Prop} {U : State} {H : Heap} (h : vx_L C n d A U H) (hAB : ∀ q, B q → A q) : vx_L C n d B U H := by
  obtain ⟨c, k, i, f, a, cell, h1, h2, h3, h4, h5, h6, h7, h8, h9, h10⟩ := h
  exact ⟨c, k, i, f, a, cell, h1, h2, h3, h4, h5, h6, h7, h8, h9, fun z => h10 (hAB _ z)⟩
theorem vx_L.word {C n d : String} {A : Nat → Prop} {s : State} {args : Array Value} (h : vx_L C n d A s s.heap) : (Cond.laysStatic C n d).before args s = true := by
  obtain ⟨c, k, i, f, a, cell, h1, h2, h3, h4, h5, h6, h7, h8, h9, -⟩ := h
  show (Cond.laysStatic C n d).holds args s none s [] = true
  exact Cond.laysStatic_of h1 h2 h3 h4 h5 h6 h7 h8 h9
/-- .. and what it holds: null or some reference -/
def vx_Zq (C n d : String) (A : Nat → Prop) (U : State) (H : Heap) : Prop := va_Zq C n d A U H ∧ vx_L C n d A U H
theorem vx_Zq.moved {C n d : String} {A : Nat → Prop} {u U : State} {H : Heap} (hvm : u.vm.Alike U.vm) (h : vx_Zq C n d A u H) : vx_Zq C n d A U H := ⟨va_Zq.moved hvm h.1, vx_L.moved hvm h.2⟩
theorem vx_Zq.kept {C n d : String} {A : Nat → Prop} {U : State} {H H1 : Heap} (h : vx_Zq C n d A U H) (hq : ∀ a : Nat, a < H.size → ¬ A a → H1[a]? = H[a]?) : vx_Zq C n d A U H1 := ⟨va_Zq.kept h.1 hq, vx_L.kept h.2 hq⟩
theorem vx_Zq.narrow {C n d : String} {A B : Nat → Prop} {U : State} {H : Heap} (h : vx_Zq C n d A U H) (hAB : ∀ q, B q → A q) : vx_Zq C n d B U H := ⟨va_Zq.narrow h.1 hAB, vx_L.narrow h.2 hAB⟩
theorem vx_Zqof {args : Array Value} {s : State} {C n d : String} {A : Nat → Prop} (hl : (Cond.laysStatic C n d).before args s = true) (hini : (Cond.initialized C).before args s = true) (h : (Cond.isRef (.static C n d)).before args s = true) (hA : ∀ a : Nat, a < s.heap.size → ¬ A a) : vx_Zq C n d A s s.heap := by
  refine ⟨va_Zqof hl hini h hA, ?_⟩
  obtain ⟨c, k, i, f, a, cell, h1, h2, h3, h4, h5, h6, h7, h8, h9⟩ := Cond.laysStatic_spec hl
  exact ⟨c, k, i, f, a, cell, h1, h2, h3, h4, h5, h6, h7, h8, h9, hA a (Array.getElem?_eq_some_iff.mp h5).1⟩
theorem vx_isRef {C n d : String} {v : Value} {A : Nat → Prop} {s : State} {args : Array Value} (h : va_Z C n d v A s s.heap) (hv : v.isRef = true) : (Cond.isRef (.static C n d)).before args s = true := by
  obtain ⟨cf, kf, fi, f, a, cell, h1, h2, h3, h4, h5, h6, h7, -⟩ := h
  have he : (Term.static C n d).eval args s none [] s = some v := by
    simp [Term.eval, State.fieldNamed?, h1, h2, h4, h5, h6, h7]
  simp only [Cond.before, Cond.holds, Cond.value, he]
  cases v <;> simp_all [Value.isRef]
theorem vx_isRefq {C n d : String} {A : Nat → Prop} {s : State} {args : Array Value} (h : va_Zq C n d A s s.heap) : (Cond.isRef (.static C n d)).before args s = true := by
  rcases h with h | ⟨t, h⟩
  · exact vx_isRef h rfl
  · exact vx_isRef h rfl
/-- the same frame, seen from here: as if the method were called anew in this heap -/
theorem vx_rebase {T : State} (X : Stand p l e R s m args below meth c T locs cells slots) {R' : Room} (hf : R'.frames ≤ R.frames) (hl : R'.locals ≤ R.locals) (hc : cells + R'.cells ≤ R.cells) (hs : slots + R'.slots ≤ R.slots) :
    Stand p l e R' ((T.setVm s.vm).setFrames (.invoking m args :: below)) m args below meth c T [] 0 0 := by
  have htop : (T.setVm s.vm).topJava?.isSome := X.here.top
  have hF : ((T.setVm s.vm).setFrames (.invoking m args :: below)).frames = .invoking m args :: below := State.frames_setFrames _ (State.cur_lt_of_top htop)
  obtain ⟨g₀, hg0⟩ := Option.isSome_iff_exists.mp htop
  obtain ⟨r, hr⟩ := State.topJava?_eq_some.mp hg0
  have hl9 : e.platform.stackLimits (T.setVm s.vm).me = e.platform.stackLimits s.me := X.limits
  have hb9 : (T.setVm s.vm).me.stackBytes = s.me.stackBytes := X.bytes
  refine ⟨X.admits, X.cas, X.clock, hF, ?_, X.hears, X.method, X.code, X.here, X.tail, X.warmed, ?_, ?_, ?_⟩
  · have h := X.room
    have hU : ((T.setVm s.vm).setFrames (.invoking m args :: below)).localsInUse = s.localsInUse := by
      rw [State.localsInUse_invoking hF (meth := meth) (c := c) X.method X.code, State.localsInUse_invoking X.frames X.method X.code]
    simp only [State.hasRoom, Bool.and_eq_true, decide_eq_true_eq] at h ⊢
    obtain ⟨⟨⟨⟨h1, h2, h3, h4, h5, h6⟩, h7⟩, h8⟩, h9⟩ := h
    rw [X.frames, List.length_cons] at h2 h3
    have q1 := X.heapSize
    have q2 := X.used
    simp only [hF, hU, List.length_cons, State.stackLimits_setFrames, State.stackBytes_setFrames, hl9, hb9]
    refine ⟨⟨⟨⟨by omega, by omega, by omega, by omega, by omega, h6⟩, ?_⟩, ?_⟩, X.book⟩
    · show T.heap.size + R'.cells ≤ e.platform.maxCells
      omega
    · show T.slotsUsed + R'.slots ≤ e.platform.maxSlots
      omega
  · rw [State.stackLimits_setFrames]; rfl
  · rw [State.stackBytes_setFrames]; rfl
  · refine ⟨?_, Nat.le_refl _, Nat.le_refl _, ?_, ?_, fun a c9 h9 => ⟨c9, h9, rfl, rfl, fun _ _ => rfl⟩⟩
    · obtain ⟨t, ht, -⟩ := State.frames_cons hr
      show T.setVm s.vm = { ((T.setVm s.vm).setFrames (.invoking m args :: below)).setFrames (T.setVm s.vm).frames with heap := T.heap, slotsUsed := T.slotsUsed }
      rw [State.setFrames_setFrames, State.setFrames_self ht]
      rfl
    · show T.slotsUsed = T.slotsUsed + ((T.heap.toList.drop T.heap.size).map (·.slots.size)).sum
      rw [List.drop_eq_nil_of_le (Nat.le_of_eq Array.length_toList)]
      rfl
    · show ((T.heap.toList.drop T.heap.size).map (·.slots.size)).sum ≤ 0
      rw [List.drop_eq_nil_of_le (Nat.le_of_eq Array.length_toList)]
      exact Nat.le_refl _
/-- 'throw new E()': new; dup; invokespecial; athrow -/
theorem vx_throw0 {cc : ByteArray} {pc : Nat} (hexec : p.tables.exec = Jvm.exec) (hb : c.code = cc) (hl : l.stackTraces = false) {own cls : String} {names : List String} {ik ic mc ms : Nat} {A : Nat → Prop}
    (hown : s.vm.findClass own = some m.cls) (hcls : Bundle.fit cls = true) (hnames : ∀ n ∈ names, Bundle.fit n = true)
    (hk : (Cond.classLink own ik cls).before args s = true) (hini : (Cond.initialized cls).before args s = true) (hat : ∀ w ∈ vx_at0 own ic cls names, w.before args s = true)
    (hgood : ∀ w ∈ Cond.classLink own ik cls :: Cond.initialized cls :: vx_at0 own ic cls names, vx_ot w = true)
    (hU : vx_Zq Bundle.tN "UNASSIGNED_STACK" Bundle.steD A s s.heap) (hN : vx_Zq Bundle.tN "SUPPRESSED_SENTINEL" Bundle.listD A s s.heap) (hS : va_S A s.heap H locs) (hsize : ls.size = c.maxLocals)
    (d0 : decode cc pc = .ok (.new ik, 3)) (d3 : decode cc (pc + 3) = .ok (.dup, 1)) (d4 : decode cc (pc + 4) = .ok (.invokespecial ic, 3)) (d7 : decode cc (pc + 7) = .ok (.athrow, 1))
    (hout : ∀ x ∈ c.exceptionTable.toList, covers x (pc + 7) = false)
    (hRframes : names.length + 3 < R.frames) (hRlocals : (rest.map fun v => v.category).sum + (13 * (names.length + 1) + 42) ≤ R.locals) (hRcells : cells + 1 ≤ R.cells) (hRslots : slots + 6 ≤ R.slots) (hlocks : meth.locks = false)
    (hx : ∀ t : State, s.vm.Alike t.vm → H.size ≤ t.heap.size → (∀ q : Nat, q < H.size → t.heap[q]? = H[q]?) → XC cls s t)
    (hf : ∀ z ∈ locs, free z.base) (hc : cells + 1 ≤ mc) (hs : slots + 6 ≤ ms) :
    W p l e R s m args below meth c H locs cells slots (vx_MQ below Qc XC args s mc ms free) (F0 m pc ls rest) := by
  intro T hT X
  have htr : e.platform.stackTraces = false := (show e.platform.stackTraces = l.stackTraces by rw [X.admits.platform]).trans hl
  have Y := vx_rebase X (R' := { frames := R.frames, locals := R.locals, cells := 1, slots := 6 }) (Nat.le_refl _) (Nat.le_refl _) hRcells hRslots
  obtain ⟨s', hA⟩ : ∃ z, z = (T.setVm s.vm).setFrames (.invoking m args :: below) := ⟨_, rfl⟩
  rw [← hA] at Y
  have hvm : s'.vm = s.vm := by rw [hA]; rfl
  have hhp : s'.heap = H := by rw [hA]; exact hT
  have hW0 : s.WarmedH s'.vm := by rw [hvm]; exact State.WarmedH.refl s
  have hat' : ∀ w ∈ vx_at0 own ic cls names, w.before args s' = true := fun w hw => vx_ot_at hW0 hvm.symm (hgood w (List.mem_cons_of_mem _ (List.mem_cons_of_mem _ hw))) (hat w hw)
  have hk' : (Cond.classLink own ik cls).before args s' = true := vx_ot_at hW0 hvm.symm (hgood _ List.mem_cons_self) hk
  have hini' : (Cond.initialized cls).before args s' = true := vx_ot_at hW0 hvm.symm (hgood _ (List.mem_cons_of_mem _ List.mem_cons_self)) hini
  have hU' : vx_Zq Bundle.tN "UNASSIGNED_STACK" Bundle.steD A s' s'.heap := by rw [hhp]; exact vx_Zq.moved hW0.alike (hU.kept hS.2.1)
  have hN' : vx_Zq Bundle.tN "SUPPRESSED_SENTINEL" Bundle.listD A s' s'.heap := by rw [hhp]; exact vx_Zq.moved hW0.alike (hN.kept hS.2.1)
  have h : ∀ w ∈ Bundle.ownAtoms0 own ic cls names, w.before args s' = true := vx_own hat' (vx_isRefq hU'.1) (vx_isRefq hN'.1) hU'.2.word hN'.2.word
  have hown' : s'.vm.findClass own = some m.cls := by rw [hvm]; exact hown
  have hins : (Cond.instantiable cls 6).before args s' = true := h _ (by simp [Bundle.ownAtoms0])
  obtain ⟨vm₁, cX, kX, hfX, hkX, -, -, X₁, st1⟩ := Y.newCold hexec (own := own) (C := cls) (index := ik) (n := 6) hown' hk' hins hini'
    (g := F0 m pc ls rest) rfl (by rw [hb]; exact d0) (Nat.le_refl _) (Nat.le_refl _)
  generalize hT1 : (T.setVm vm₁).pushCell { cls := cX, slots := kX.instanceTypes.map defaultValue, vm := .none } = T1 at X₁ st1
  have hcat : (Value.ref T.heap.size).category = 1 := rfl
  have hcellA : T1.heap[T.heap.size]? = some (freshCell cX kX) := by rw [← hT1]; exact State.heap_pushCell_size _ _
  have d3' : decode c.code (pc + 3) = .ok (.dup, 1) := by rw [hb]; exact d3
  obtain ⟨U, hsteps, hrun, hend, hW, hsame, ce, hce, hO⟩ := X₁.ctorThrow0 hexec htr (own := own) (cls := cls) (names := names) (ic := ic) hown' hcls hnames h (fun x hx => nomatch hx) hfX hkX hcellA (by rw [hhp, hT]; exact Nat.le_refl _)
    (g := { method := m, pc := pc + 4, locals := ls, stack := .ref T.heap.size :: .ref T.heap.size :: rest, locked := none }) rfl hsize rfl rfl (rest := rest) rfl
    (by rw [hb]; exact d4) (by rw [hb]; exact d7) hout hRframes (by simp only [List.map_cons, List.sum_cons, hcat]; omega) hlocks
  obtain ⟨f1, f2⟩ := vx_frame hsame
  rw [hhp] at f1 f2
  have hWs : s.WarmedH U.vm := State.WarmedH.trans hW0 hW
  have hcl : s.vm.findClass cls = some ce.cls := by
    have h9 := hO.cls
    rw [hvm] at h9
    exact h9
  have hall : s.sameButNew ({ U with vm := s.vm } : State) locs mc ms := by
    subst hA
    obtain ⟨e1, e2⟩ := hsame
    rw [State.setFrames_setFrames] at e1
    have h2 : (T.setVm s.vm).sameButNew ({ U with vm := s.vm } : State) [] (0 + 1) (0 + 6) := ⟨e1, e2⟩
    have h3 := X.same.trans h2
    rw [List.append_nil] at h3
    exact h3.mono hc hs
  refine ⟨U, ?_, .threw T.heap.size, hrun, hend, Or.inr ⟨T.heap.size, rfl, cls, ce, locs, hx U hWs.alike f1 (fun q hq => f2 q hq (fun z hz => nomatch hz)), hce, hO.vm, hcl, hWs, hall, hf⟩⟩
  refine st1 _ ?_
  show Steps p.tables e below (T1.setTop { method := m, pc := pc + 3, locals := ls, stack := .ref T.heap.size :: rest, locked := none }) _
  jvm_step X₁.here [X₁.here.top, hexec, d3', Value.category]
  exact hsteps
/-- 'throw new E("text")': new; dup; ldc; invokespecial; athrow -/
theorem vx_throwS {cc : ByteArray} {pc : Nat} (hexec : p.tables.exec = Jvm.exec) (hb : c.code = cc) (hl : l.stackTraces = false) {own cls text : String} {names : List String} {ik is ic mc ms sa : Nat} {A : Nat → Prop}
    (hown : s.vm.findClass own = some m.cls) (hcls : Bundle.fit cls = true) (hnames : ∀ n ∈ names, Bundle.fit n = true)
    (hk : (Cond.classLink own ik cls).before args s = true) (hini : (Cond.initialized cls).before args s = true) (hstr : vk_R own is text sa s) (hat : ∀ w ∈ vx_atS own ic cls names, w.before args s = true)
    (hgood : ∀ w ∈ Cond.classLink own ik cls :: Cond.initialized cls :: vx_atS own ic cls names, vx_ot w = true)
    (hU : vx_Zq Bundle.tN "UNASSIGNED_STACK" Bundle.steD A s s.heap) (hN : vx_Zq Bundle.tN "SUPPRESSED_SENTINEL" Bundle.listD A s s.heap) (hS : va_S A s.heap H locs) (hsize : ls.size = c.maxLocals)
    (d0 : decode cc pc = .ok (.new ik, 3)) (d3 : decode cc (pc + 3) = .ok (.dup, 1)) (d4 : decode cc (pc + 4) = .ok (.ldc is, 2)) (d6 : decode cc (pc + 6) = .ok (.invokespecial ic, 3)) (d9 : decode cc (pc + 9) = .ok (.athrow, 1))
    (hout : ∀ x ∈ c.exceptionTable.toList, covers x (pc + 9) = false)
    (hRframes : names.length + 3 < R.frames) (hRlocals : (rest.map fun v => v.category).sum + (13 * (names.length + 1) + 43) ≤ R.locals) (hRcells : cells + 1 ≤ R.cells) (hRslots : slots + 6 ≤ R.slots) (hlocks : meth.locks = false)
    (hx : ∀ t : State, s.vm.Alike t.vm → H.size ≤ t.heap.size → (∀ q : Nat, q < H.size → t.heap[q]? = H[q]?) → XC cls s t)
    (hf : ∀ z ∈ locs, free z.base) (hc : cells + 1 ≤ mc) (hs : slots + 6 ≤ ms) :
    W p l e R s m args below meth c H locs cells slots (vx_MQ below Qc XC args s mc ms free) (F0 m pc ls rest) := by
  intro T hT X
  have htr : e.platform.stackTraces = false := (show e.platform.stackTraces = l.stackTraces by rw [X.admits.platform]).trans hl
  have Y := vx_rebase X (R' := { frames := R.frames, locals := R.locals, cells := 1, slots := 6 }) (Nat.le_refl _) (Nat.le_refl _) hRcells hRslots
  obtain ⟨s', hA⟩ : ∃ z, z = (T.setVm s.vm).setFrames (.invoking m args :: below) := ⟨_, rfl⟩
  rw [← hA] at Y
  have hvm : s'.vm = s.vm := by rw [hA]; rfl
  have hhp : s'.heap = H := by rw [hA]; exact hT
  have hW0 : s.WarmedH s'.vm := by rw [hvm]; exact State.WarmedH.refl s
  have hat' : ∀ w ∈ vx_atS own ic cls names, w.before args s' = true := fun w hw => vx_ot_at hW0 hvm.symm (hgood w (List.mem_cons_of_mem _ (List.mem_cons_of_mem _ hw))) (hat w hw)
  have hk' : (Cond.classLink own ik cls).before args s' = true := vx_ot_at hW0 hvm.symm (hgood _ List.mem_cons_self) hk
  have hini' : (Cond.initialized cls).before args s' = true := vx_ot_at hW0 hvm.symm (hgood _ (List.mem_cons_of_mem _ List.mem_cons_self)) hini
  have hU' : vx_Zq Bundle.tN "UNASSIGNED_STACK" Bundle.steD A s' s'.heap := by rw [hhp]; exact vx_Zq.moved hW0.alike (hU.kept hS.2.1)
  have hN' : vx_Zq Bundle.tN "SUPPRESSED_SENTINEL" Bundle.listD A s' s'.heap := by rw [hhp]; exact vx_Zq.moved hW0.alike (hN.kept hS.2.1)
  have h : ∀ w ∈ Bundle.ownAtoms own ic cls names, w.before args s' = true := vx_own hat' (vx_isRefq hU'.1) (vx_isRefq hN'.1) hU'.2.word hN'.2.word
  have hown' : s'.vm.findClass own = some m.cls := by rw [hvm]; exact hown
  have hins : (Cond.instantiable cls 6).before args s' = true := h _ (by simp [Bundle.ownAtoms])
  obtain ⟨vm₁, cX, kX, hfX, hkX, -, -, X₁, st1⟩ := Y.newCold hexec (own := own) (C := cls) (index := ik) (n := 6) hown' hk' hins hini'
    (g := F0 m pc ls rest) rfl (by rw [hb]; exact d0) (Nat.le_refl _) (Nat.le_refl _)
  generalize hT1 : (T.setVm vm₁).pushCell { cls := cX, slots := kX.instanceTypes.map defaultValue, vm := .none } = T1 at X₁ st1
  have hcat : (Value.ref T.heap.size).category = 1 := rfl
  have hcellA : T1.heap[T.heap.size]? = some (freshCell cX kX) := by rw [← hT1]; exact State.heap_pushCell_size _ _
  have d3' : decode c.code (pc + 3) = .ok (.dup, 1) := by rw [hb]; exact d3
  have d4' : decode c.code (pc + 4) = .ok (.ldc is, 2) := by rw [hb]; exact d4
  have hstr' : vk_R own is text sa s' := vk_R.warm hW0 hstr
  obtain ⟨U, hsteps, hrun, hend, hW, hsame, ce, hce, hO⟩ := X₁.ctorThrowS hexec htr (own := own) (cls := cls) (names := names) (ic := ic) hown' hcls hnames h (fun x hx => nomatch hx) hfX hkX hcellA (by rw [hhp, hT]; exact Nat.le_refl _) (msg := .ref sa) rfl
    (g := { method := m, pc := pc + 6, locals := ls, stack := .ref sa :: .ref T.heap.size :: .ref T.heap.size :: rest, locked := none }) rfl hsize rfl rfl (rest := rest) rfl
    (by rw [hb]; exact d6) (by rw [hb]; exact d9) hout hRframes (by simp only [List.map_cons, List.sum_cons, hcat]; omega) hlocks
  obtain ⟨f1, f2⟩ := vx_frame hsame
  rw [hhp] at f1 f2
  have hWs : s.WarmedH U.vm := State.WarmedH.trans hW0 hW
  have hcl : s.vm.findClass cls = some ce.cls := by
    have h9 := hO.cls
    rw [hvm] at h9
    exact h9
  have hall : s.sameButNew ({ U with vm := s.vm } : State) locs mc ms := by
    subst hA
    obtain ⟨e1, e2⟩ := hsame
    rw [State.setFrames_setFrames] at e1
    have h2 : (T.setVm s.vm).sameButNew ({ U with vm := s.vm } : State) [] (0 + 1) (0 + 6) := ⟨e1, e2⟩
    have h3 := X.same.trans h2
    rw [List.append_nil] at h3
    exact h3.mono hc hs
  refine ⟨U, ?_, .threw T.heap.size, hrun, hend, Or.inr ⟨T.heap.size, rfl, cls, ce, locs, hx U hWs.alike f1 (fun q hq => f2 q hq (fun z hz => nomatch hz)), hce, hO.vm, hcl, hWs, hall, hf⟩⟩
  refine st1 _ ?_
  show Steps p.tables e below (T1.setTop { method := m, pc := pc + 3, locals := ls, stack := .ref T.heap.size :: rest, locked := none }) _
  jvm_step X₁.here [X₁.here.top, hexec, d3', Value.category]
  exact X₁.ldcString hexec (own := own) (text := text) (index := is) (a := sa) hown' hstr'.1 hstr'.2
    (g := { method := m, pc := pc + 4, locals := ls, stack := .ref T.heap.size :: .ref T.heap.size :: rest, locked := none }) rfl d4' _ hsteps
/-- 'throw new E("text")', the text by a wide index -/
theorem vx_throwSW {cc : ByteArray} {pc : Nat} (hexec : p.tables.exec = Jvm.exec) (hb : c.code = cc) (hl : l.stackTraces = false) {own cls text : String} {names : List String} {ik is ic mc ms sa : Nat} {A : Nat → Prop}
    (hown : s.vm.findClass own = some m.cls) (hcls : Bundle.fit cls = true) (hnames : ∀ n ∈ names, Bundle.fit n = true)
    (hk : (Cond.classLink own ik cls).before args s = true) (hini : (Cond.initialized cls).before args s = true) (hstr : vk_R own is text sa s) (hat : ∀ w ∈ vx_atS own ic cls names, w.before args s = true)
    (hgood : ∀ w ∈ Cond.classLink own ik cls :: Cond.initialized cls :: vx_atS own ic cls names, vx_ot w = true)
    (hU : vx_Zq Bundle.tN "UNASSIGNED_STACK" Bundle.steD A s s.heap) (hN : vx_Zq Bundle.tN "SUPPRESSED_SENTINEL" Bundle.listD A s s.heap) (hS : va_S A s.heap H locs) (hsize : ls.size = c.maxLocals)
    (d0 : decode cc pc = .ok (.new ik, 3)) (d3 : decode cc (pc + 3) = .ok (.dup, 1)) (d4 : decode cc (pc + 4) = .ok (.ldc_w is, 3)) (d7 : decode cc (pc + 7) = .ok (.invokespecial ic, 3)) (d10 : decode cc (pc + 10) = .ok (.athrow, 1))
    (hout : ∀ x ∈ c.exceptionTable.toList, covers x (pc + 10) = false)
    (hRframes : names.length + 3 < R.frames) (hRlocals : (rest.map fun v => v.category).sum + (13 * (names.length + 1) + 43) ≤ R.locals) (hRcells : cells + 1 ≤ R.cells) (hRslots : slots + 6 ≤ R.slots) (hlocks : meth.locks = false)
    (hx : ∀ t : State, s.vm.Alike t.vm → H.size ≤ t.heap.size → (∀ q : Nat, q < H.size → t.heap[q]? = H[q]?) → XC cls s t)
    (hf : ∀ z ∈ locs, free z.base) (hc : cells + 1 ≤ mc) (hs : slots + 6 ≤ ms) :
    W p l e R s m args below meth c H locs cells slots (vx_MQ below Qc XC args s mc ms free) (F0 m pc ls rest) := by
  intro T hT X
  have htr : e.platform.stackTraces = false := (show e.platform.stackTraces = l.stackTraces by rw [X.admits.platform]).trans hl
  have Y := vx_rebase X (R' := { frames := R.frames, locals := R.locals, cells := 1, slots := 6 }) (Nat.le_refl _) (Nat.le_refl _) hRcells hRslots
  obtain ⟨s', hA⟩ : ∃ z, z = (T.setVm s.vm).setFrames (.invoking m args :: below) := ⟨_, rfl⟩
  rw [← hA] at Y
  have hvm : s'.vm = s.vm := by rw [hA]; rfl
  have hhp : s'.heap = H := by rw [hA]; exact hT
  have hW0 : s.WarmedH s'.vm := by rw [hvm]; exact State.WarmedH.refl s
  have hat' : ∀ w ∈ vx_atS own ic cls names, w.before args s' = true := fun w hw => vx_ot_at hW0 hvm.symm (hgood w (List.mem_cons_of_mem _ (List.mem_cons_of_mem _ hw))) (hat w hw)
  have hk' : (Cond.classLink own ik cls).before args s' = true := vx_ot_at hW0 hvm.symm (hgood _ List.mem_cons_self) hk
  have hini' : (Cond.initialized cls).before args s' = true := vx_ot_at hW0 hvm.symm (hgood _ (List.mem_cons_of_mem _ List.mem_cons_self)) hini
  have hU' : vx_Zq Bundle.tN "UNASSIGNED_STACK" Bundle.steD A s' s'.heap := by rw [hhp]; exact vx_Zq.moved hW0.alike (hU.kept hS.2.1)
  have hN' : vx_Zq Bundle.tN "SUPPRESSED_SENTINEL" Bundle.listD A s' s'.heap := by rw [hhp]; exact vx_Zq.moved hW0.alike (hN.kept hS.2.1)
  have h : ∀ w ∈ Bundle.ownAtoms own ic cls names, w.before args s' = true := vx_own hat' (vx_isRefq hU'.1) (vx_isRefq hN'.1) hU'.2.word hN'.2.word
  have hown' : s'.vm.findClass own = some m.cls := by rw [hvm]; exact hown
  have hins : (Cond.instantiable cls 6).before args s' = true := h _ (by simp [Bundle.ownAtoms])
  obtain ⟨vm₁, cX, kX, hfX, hkX, -, -, X₁, st1⟩ := Y.newCold hexec (own := own) (C := cls) (index := ik) (n := 6) hown' hk' hins hini'
    (g := F0 m pc ls rest) rfl (by rw [hb]; exact d0) (Nat.le_refl _) (Nat.le_refl _)
  generalize hT1 : (T.setVm vm₁).pushCell { cls := cX, slots := kX.instanceTypes.map defaultValue, vm := .none } = T1 at X₁ st1
  have hcat : (Value.ref T.heap.size).category = 1 := rfl
  have hcellA : T1.heap[T.heap.size]? = some (freshCell cX kX) := by rw [← hT1]; exact State.heap_pushCell_size _ _
  have d3' : decode c.code (pc + 3) = .ok (.dup, 1) := by rw [hb]; exact d3
  have d4' : decode c.code (pc + 4) = .ok (.ldc_w is, 3) := by rw [hb]; exact d4
  have hstr' : vk_R own is text sa s' := vk_R.warm hW0 hstr
  obtain ⟨U, hsteps, hrun, hend, hW, hsame, ce, hce, hO⟩ := X₁.ctorThrowS hexec htr (own := own) (cls := cls) (names := names) (ic := ic) hown' hcls hnames h (fun x hx => nomatch hx) hfX hkX hcellA (by rw [hhp, hT]; exact Nat.le_refl _) (msg := .ref sa) rfl
    (g := { method := m, pc := pc + 7, locals := ls, stack := .ref sa :: .ref T.heap.size :: .ref T.heap.size :: rest, locked := none }) rfl hsize rfl rfl (rest := rest) rfl
    (by rw [hb]; exact d7) (by rw [hb]; exact d10) hout hRframes (by simp only [List.map_cons, List.sum_cons, hcat]; omega) hlocks
  obtain ⟨f1, f2⟩ := vx_frame hsame
  rw [hhp] at f1 f2
  have hWs : s.WarmedH U.vm := State.WarmedH.trans hW0 hW
  have hcl : s.vm.findClass cls = some ce.cls := by
    have h9 := hO.cls
    rw [hvm] at h9
    exact h9
  have hall : s.sameButNew ({ U with vm := s.vm } : State) locs mc ms := by
    subst hA
    obtain ⟨e1, e2⟩ := hsame
    rw [State.setFrames_setFrames] at e1
    have h2 : (T.setVm s.vm).sameButNew ({ U with vm := s.vm } : State) [] (0 + 1) (0 + 6) := ⟨e1, e2⟩
    have h3 := X.same.trans h2
    rw [List.append_nil] at h3
    exact h3.mono hc hs
  refine ⟨U, ?_, .threw T.heap.size, hrun, hend, Or.inr ⟨T.heap.size, rfl, cls, ce, locs, hx U hWs.alike f1 (fun q hq => f2 q hq (fun z hz => nomatch hz)), hce, hO.vm, hcl, hWs, hall, hf⟩⟩
  refine st1 _ ?_
  show Steps p.tables e below (T1.setTop { method := m, pc := pc + 3, locals := ls, stack := .ref T.heap.size :: rest, locked := none }) _
  jvm_step X₁.here [X₁.here.top, hexec, d3', Value.category]
  exact X₁.ldcStringW hexec (own := own) (text := text) (index := is) (a := sa) hown' hstr'.1 hstr'.2
    (g := { method := m, pc := pc + 4, locals := ls, stack := .ref T.heap.size :: .ref T.heap.size :: rest, locked := none }) rfl d4' _ hsteps
end Ends
section Bodies
variable {l : Launch}
theorem vx_ofW {y : MethodName} {ws ws' : List Cond} {rm : Room} {Pc : Array Value → State → Prop} {Qc : Array Value → State → Outcome → State → Prop} {XC : String → State → State → Prop} {mc ms : Nat} {free : Addr → Prop} {cc : ByteArray} {maxL : Nat} {ret : Option FieldType}
    (hy : plainName y.cls = true) (hw : ws = Cond.code y cc maxL ret :: ws')
    (body : ∀ p e s m args below meth c s₁, BodyLoose p l y (headSpec ws rm) cc maxL ret e s m args below meth c s₁ → c.maxLocals = maxL → (∀ x ∈ c.exceptionTable.toList, False) → Pc args s →
      W p l e (headSpec ws rm).room s m args below meth c s.heap [] 0 0 (vx_MQ below Qc XC args s mc ms free) (entryFrame m args maxL)) : vx_Met l y ws rm Pc Qc XC mc ms free := by
  refine MetFree.of_bodyS (code := cc) (maxLocals := maxL) (ret := ret) hy ?_ ?_
  · intro args s m h hn
    obtain ⟨meth, c, h1, h2, h3, h4, h5, h6, -, -⟩ := Cond.code_spec hn (atoms_spec (ws := ws) h _ (by rw [hw]; exact List.mem_cons_self))
    exact ⟨meth, c, h1, h2, h3, h4, h5, h6⟩
  · intro p e s m args below meth c s₁ B hml hP _
    have hh0 : s₁.heap = s.heap := by rw [B.state]; rfl
    have ht : ∀ x ∈ c.exceptionTable.toList, False := by
      obtain ⟨meth9, c9, h1, h2, -, -, -, -, h7, -⟩ := Cond.code_spec B.named (atoms_spec (ws := ws) B.pre _ (by rw [hw]; exact List.mem_cons_self))
      cases Option.some.inj (h1.symm.trans B.method)
      cases Option.some.inj (h2.symm.trans (Stand.of_body B).code)
      intro x hx
      rw [Array.isEmpty_iff.mp h7] at hx
      cases hx
    obtain ⟨t, a1, o, b1, b2, b3⟩ := body p e s m args below meth c s₁ B hml ht hP s₁ hh0 (Stand.of_body B)
    exact ⟨t, o, a1, b1, b2, b3⟩
/-- the table of a body with handlers -/
theorem vx_table {p : Program} {x y : MethodName} {S : Spec} {cc bytes : ByteArray} {maxL maxL' : Nat} {ret ret' : Option FieldType} {e : Env} {s s₁ : State} {m : MethodId} {args : Array Value} {below : List Frame} {meth : Method} {c : Code} {hh : List (Nat × Nat × Nat × Nat)}
    (B : BodyLoose p l y S cc maxL ret e s m args below meth c s₁) (h : (Cond.codeWith y bytes maxL' ret' hh).before args s = true) : c.exceptionTable.toList = tableOf hh := by
  obtain ⟨m9, meth9, c9, hn9, h1, h2, -, -, h6, -⟩ := Cond.codeWith_spec h
  cases Option.some.inj (hn9.symm.trans B.named)
  cases Option.some.inj (h1.symm.trans B.method)
  cases Option.some.inj (h2.symm.trans (Stand.of_body B).code)
  rw [← h6, table_eq]
end Bodies
end VXA
/-! ===== END ===== -/
/-! ===== BEGIN a static call of a method with an exception table ===== -/
section VXS
variable {p : Program} {l : Launch} {e : Env} {R : Room} {s : State} {m : MethodId} {args : Array Value} {below : List Frame} {meth : Method} {c : Code} {T : State} {H : Heap} {locs : List Loc} {cells slots : Nat}
abbrev vx_CSW (R : Room) (s : State) (args : Array Value) (own : String) (index : Nat) (y : MethodName) (bytes : ByteArray) (maxL : Nat) (ret : Option FieldType) (hh : List (Nat × Nat × Nat × Nat)) (ws : List Cond) (rm : Room) (mc ms n : Nat) : Prop :=
  (rm.cells = mc ∧ rm.slots = ms ∧ rm.frames + 1 ≤ R.frames ∧ 8 + (maxL + 11) + rm.locals ≤ R.locals ∧ (∀ w ∈ ws, ∀ (a' : Array Value) (U : State), s.WarmedH U.vm → w.before a' U = true) ∧ Cond.codeWith y bytes maxL ret hh ∈ ws) ∧
  (Cond.codeWith y bytes maxL ret hh).before args s = true ∧ (Cond.initialized y.cls).before args s = true ∧ (y.cls ≠ "java/lang/invoke/MethodHandle" ∧ y.cls ≠ "java/lang/invoke/VarHandle") ∧
  (∀ sig, parseMethodDescriptor y.desc = some sig → n = sig.parameters.length) ∧ (Cond.methodLink own index y).before args s = true ∧ (Cond.static y).before args s = true
theorem vx_cwSW {own : String} {index maxL mc ms : Nat} {y : MethodName} {bytes : ByteArray} {ret : Option FieldType} {hh : List (Nat × Nat × Nat × Nat)} {Ts ws ws' : List Cond} {rm : Room} (n : Nat) (ht : ∀ w ∈ Ts, w.before args s = true) (hT : GoodIn Ts (va_wsS own index y ws)) (hw : ws = Cond.codeWith y bytes maxL ret hh :: ws') (hrc : rm.cells = mc) (hrs : rm.slots = ms)
    (hd : y.cls ≠ "java/lang/invoke/MethodHandle" ∧ y.cls ≠ "java/lang/invoke/VarHandle" ∧ (parseMethodDescriptor y.desc).map (fun d => d.parameters.length) = some n) (hR : rm.frames + 1 ≤ R.frames ∧ 8 + (maxL + 11) + rm.locals ≤ R.locals) :
    vx_CSW R s args own index y bytes maxL ret hh ws rm mc ms n := by
  have ok : ∀ w ∈ va_wsS own index y ws, w.before args s = true := fun w h => ht w (hT w h).1
  have hG : GoodIn Ts ws := fun w h => hT w (by unfold va_wsS; exact List.mem_append_right _ h)
  have hc : Cond.codeWith y bytes maxL ret hh ∈ ws := by rw [hw]; exact List.mem_cons_self
  refine ⟨⟨hrc, hrs, hR.1, hR.2, pay_in ht hG, hc⟩, ht _ (hG _ hc).1, ok _ (by simp [va_wsS]), ⟨hd.1, hd.2.1⟩, fun sig h => ?_, ok _ (by simp [va_wsS]), ok _ (by simp [va_wsS])⟩
  have h2 := hd.2.2
  rw [h] at h2
  exact (Option.some.inj h2).symm
theorem vx_callSW (X : Stand p l e R s m args below meth c T locs cells slots) (hexec : p.tables.exec = Jvm.exec) {own : String} {index : Nat} {y : MethodName} {bytes : ByteArray} {maxL : Nat} {ret : Option FieldType} {hh : List (Nat × Nat × Nat × Nat)}
    (hown : s.vm.findClass own = some m.cls) (hlink : (Cond.methodLink own index y).before args s = true) (hstat : (Cond.static y).before args s = true) (hinit : (Cond.initialized y.cls).before args s = true)
    (hcode : (Cond.codeWith y bytes maxL ret hh).before args s = true) (hy : y.cls ≠ "java/lang/invoke/MethodHandle" ∧ y.cls ≠ "java/lang/invoke/VarHandle")
    {W9 : Nat} {Pre : Pt → Array Value → Prop} {Post : Pt → Array Value → Option Value → Pt → Prop} (hK : Back l R p e below s args y 3 W9 Pre Post)
    {g : JFrame} (hg : g.method = m) (hsize : g.locals.size = c.maxLocals) {argsL rest : List Value} (hlen : ∀ sig, parseMethodDescriptor y.desc = some sig → argsL.length = sig.parameters.length)
    (hstack : g.stack = argsL.reverse ++ rest) (hW : 2 * g.monitorRoom + (rest.map fun v => v.category).sum ≤ W9) (hdg : decode c.code g.pc = .ok (.invokestatic index, 3))
    (hpre : ∀ vm₁, s.WarmedH vm₁ → Pre ⟨T.setVm vm₁, locs, cells, slots⟩ argsL.toArray) :
    ∃ (v : Option Value) (vm₁ : Vm) (B : Pt), s.WarmedH vm₁ ∧ Stand p l e R s m args below meth c B.U B.locs B.cells B.slots ∧ Post ⟨T.setVm vm₁, locs, cells, slots⟩ argsL.toArray v B ∧
      ∀ target, Steps p.tables e below (B.U.setTop { g with pc := g.pc + 3, stack := v.toList ++ rest }) target → Steps p.tables e below (T.setTop g) target := by
  obtain ⟨mk, methM, cM, hnamed, hmethM, -, -, -, -, -, -, hsigM⟩ := Cond.codeWith_spec hcode
  have hstatic : methM.isStatic = true := Cond.static_spec hnamed hmethM hstat
  obtain ⟨kP, hkP, -⟩ := className_of_methodNamed hnamed
  have hinitP : kP.init = .initialized := Cond.initialized_spec (findClass_of_methodNamed hnamed) hkP hinit
  obtain ⟨vm₁, X₁, hstep₁⟩ := X.invokestatic hexec hown hlink hnamed hmethM hstatic hkP hinitP hy (g := g) hg (argsL := argsL) (rest := rest) (hlen _ hsigM) hstack hdg
  obtain ⟨v, B, X', hpost, hsteps⟩ := hK m meth c ⟨T.setVm vm₁, locs, cells, slots⟩ { g with stack := rest } (.invokestatic index) mk argsL.toArray X₁ hg hsize hdg hW (X₁.named hnamed) (hpre vm₁ X₁.warmed)
  exact ⟨v, vm₁, B, X₁.warmed, X', hpost, fun target h => hstep₁ _ fun acts => by rw [doInvoke_state]; exact hsteps.trans h⟩
theorem vx_runSW {y : MethodName} {bytes cc : ByteArray} {maxL nL mc ms n index : Nat} {ret : Option FieldType} {hh : List (Nat × Nat × Nat × Nat)} {ws : List Cond} {rm : Room} {Pc : Array Value → State → Prop} {Qc : Array Value → State → Outcome → State → Prop} {free : Addr → Prop} {Ts : List Cond} {own : String} {As rest : List Value} {g : JFrame}
    (S : CallFix p m c cc nL s args Ts own) (hM : Met l y ws rm Pc Qc mc ms free) (cw : vx_CSW R s args own index y bytes maxL ret hh ws rm mc ms n) (hp : PreS s H Pc As)
    (hg : g.method = m) (hn : As.length = n) (hsize : g.locals.size = nL) (hstack : g.stack = As.reverse ++ rest) (hW : 2 * g.monitorRoom + (rest.map fun v => v.category).sum ≤ 8) (hdg : decode cc g.pc = .ok (.invokestatic index, 3)) (hf : cells + mc ≤ R.cells ∧ slots + ms ≤ R.slots) :
    va_Run p l e R s m args below meth c H locs cells slots mc ms g rest (Qc As.toArray) (free) := by
  obtain ⟨⟨hrc, hrs, hfr, hlo, hws, hcw⟩, hcode, hini, hy, hlen, hl, hstt⟩ := cw
  have hK : Back l R p e below s args y 3 8 (PreOf R mc ms Pc) (PostOf Qc mc ms free) := va_backW (hh := hh) (bytes := bytes) (maxL := maxL) (ret := ret) hM hp.1 hrc hrs hfr hlo hws hcw (fun a' U hW => word_at hW (Or.inl (by first | rfl | simp [Cond.onTables, Cond.keeps, Cond.steady])) hini)
  obtain ⟨hx, hb, hml, ho, -⟩ := S
  intro T hT X
  obtain ⟨v, vm₁, ⟨U', l2, c2, s2⟩, hW₁, X', ⟨g', mk, t, L, e1, e2, hq, h1, hL, h2, h3⟩, st⟩ := vx_callSW X hx (hh := hh) (bytes := bytes) (maxL := maxL) (ret := ret) ho hl hstt hini hcode hy hK hg (hsize.trans hml.symm) (argsL := As) (rest := rest) (fun sig h => hn.trans (hlen sig h)) hstack hW (by rw [hb]; exact hdg)
    (fun vm₁ hW₁ => ⟨hf.1, hf.2, hp.2 (T.setVm vm₁) hT hW₁⟩)
  dsimp only [Pt.U, Pt.locs, Pt.cells, Pt.slots] at X' e1 e2 h1 h2 h3 st
  subst h1; subst h2; subst h3
  exact ⟨v, (T.setVm vm₁).calling g' mk As.toArray, t, U', L, hT, X', hL, e1, e2, hq, st⟩
/-- not caught here, past rows that name other classes: it goes on to the caller -/
theorem vx_outP {p : Program} {l : Launch} {e : Env} {R : Room} {s : State} {m : MethodId} {args : Array Value} {below : List Frame} {meth : Method} {c : Code} {H : Heap} {locs : List Loc} {cells slots : Nat} {free : Addr → Prop} {ls : Array Slot} {rest : List Value} {Qc : Array Value → State → Outcome → State → Prop} {XC : String → State → State → Prop}
    {pc : Nat} {own E : String} {ce : Cell} {q : Addr} {mc ms : Nat} (hown : s.vm.findClass own = some m.cls) (hlocks : meth.locks = false)
    (hpass : ∀ z ∈ c.exceptionTable.toList, covers z pc = false ∨ (z.catchType ≠ 0 ∧ ∃ nm : String, (Cond.classLink own z.catchType nm).before args s = true ∧ va_Nc E nm s)) (hcell : H[q]? = some ce) (hv : ce.vm = .none) (hcl : s.vm.findClass E = some ce.cls)
    (hx : ∀ t : State, t.heap = H → s.vm.Alike t.vm → XC E s t) (hf : ∀ z ∈ locs, free z.base) (hc : cells ≤ mc) (hs : slots ≤ ms) :
    vx_W p l e R s m args below meth c H locs cells slots (vx_MQ below Qc XC args s mc ms free) (F0 m pc ls rest) q := by
  intro T hT X
  have hpl : e.platform.magicAccessors = ({} : Platform).magicAccessors := by rw [X.admits.platform]
  obtain ⟨vm', hW', X', st⟩ := X.outThrough hlocks q (g := F0 m pc ls rest) rfl rfl rfl (cell := ce) (by rw [hT]; exact hcell) (by rw [hv]; rfl)
    (by obtain ⟨k9, h9, -⟩ := Vm.findClass_spec hcl; exact ⟨k9, h9⟩) (fun z hz => by
      rcases hpass z hz with h | ⟨hz0, nm, hl1, hn1⟩
      · exact Or.inl h
      · obtain ⟨c6, hc6, hcl6⟩ := Cond.classLink_spec hown hl1 e.platform hpl
        obtain ⟨a8, b8, h1, h2, h3⟩ := hn1
        cases Option.some.inj (h1.symm.trans hcl)
        cases Option.some.inj (h2.symm.trans hc6)
        exact Or.inr ⟨hz0, _, hcl6, h3⟩)
  obtain ⟨g₀, hfr⟩ := X'.frames_eq
  have hcell9 : ((T.setVm vm').setFrames (.throwing q :: below)).heap[q]? = some ce := by
    show T.heap[q]? = some ce
    rw [hT]; exact hcell
  have hend : Ended ((T.setVm vm').setFrames (.throwing q :: below)) below (.threw q) := State.frames_setFrames _ (State.cur_lt_of_frames hfr)
  refine ⟨(T.setVm vm').setFrames (.throwing q :: below), ?_, .threw q, X'.here.running, hend, Or.inr ⟨q, rfl, E, ce, locs, hx _ hT (X'.ends _).1.alike, hcell9, hv, hcl, (X'.ends _).1, (X'.ends _).2.mono hc hs, hf⟩⟩
  rw [X.pushThrowing_eq]
  exact st
/-- a thing of a world lies in the heap -/
theorem vx_lt {D : va_G} {cl : List vw_C} {ws : va_W} {H1 : Heap} (h : va_P D cl ws H1) {k : Nat} {q : Nat × va_E} (hk : ws[k]? = some q) : q.1 < H1.size := (h k q hk).lt
end VXS
/-! ===== END ===== -/
/-! ===== BEGIN methods with a table of their own: called by a name, returning or throwing ===== -/
section VXH
/-! vx_backW, vx_callVX, vx_callSX, vx_callVW, vx_runVW, vx_runVX, vx_runSX, vx_ofWH follow the same proofs as their sisters above (Free/Laws.lean, Shelf42/LK1.lean); vx_outP calls Shelf42/NT130.lean (outThrough). -/
section
variable {l : Launch} {R : Room} {p : Program} {e : Env} {below : List Frame} {s : State} {sargs : Array Value} {y : MethodName} {len W9 : Nat}
theorem vx_backW {ws : List Cond} {rm : Room} {Pc : Array Value → State → Prop} {Qc : Array Value → State → Outcome → State → Prop} {XC : String → State → State → Prop} {mc ms : Nat} {free : Addr → Prop} {bytes : ByteArray} {maxL : Nat} {ret : Option FieldType} {hh : List (Nat × Nat × Nat × Nat)}
    (hM : vx_Met l y ws rm Pc Qc XC mc ms free) (hblind : FrameBlind Pc) (hrc : rm.cells = mc) (hrs : rm.slots = ms)
    (hframes : rm.frames + 1 ≤ R.frames) (hlocals : W9 + (maxL + 11) + rm.locals ≤ R.locals)
    (hws : ∀ w ∈ ws, ∀ a' U, s.WarmedH U.vm → w.before a' U = true) (hcode : Cond.codeWith y bytes maxL ret hh ∈ ws) (hinit : ∀ a' U, s.WarmedH U.vm → (Cond.initialized y.cls).before a' U = true) :
    vx_Back l R p e below s sargs y len W9 (PreOf R mc ms Pc) (PostOf Qc mc ms free) (vx_Post XC mc ms free) := by
  intro m meth c A g ig mk a X hg hsize hdg hW hn hp
  have h1 : (headSpec ws rm).pre.before a A.U = true := atoms_intro fun w hw => hws w hw _ _ X.warmed
  have h2 : (Cond.codeWith y bytes maxL ret hh).before a A.U = true := hws _ hcode _ _ X.warmed
  have h3 : (Cond.initialized y.cls).before a A.U = true := hinit _ _ X.warmed
  have h4 : A.cells + (headSpec ws rm).room.cells ≤ R.cells := by rw [show (headSpec ws rm).room.cells = mc from hrc]; exact hp.1
  have h5 : A.slots + (headSpec ws rm).room.slots ≤ R.slots := by rw [show (headSpec ws rm).room.slots = ms from hrs]; exact hp.2.1
  have hPc : Pc a (A.U.calling g mk a) := hblind _ _ _ _ hp.2.2
  obtain ⟨U, Ls, c0, s0⟩ := A
  dsimp only [Pt.U, Pt.locs, Pt.cells, Pt.slots] at h1 h2 h3 h4 h5 X hn hPc ⊢
  obtain ⟨m9, methY, cY, hn9, hmY, hcY, -, hlY, -⟩ := Cond.codeWith_spec h2
  cases Option.some.inj (hn9.symm.trans hn)
  obtain ⟨kY, hkY, -⟩ := className_of_methodNamed hn
  have hinitY : kY.init = .initialized := Cond.initialized_spec (findClass_of_methodNamed hn) hkY h3
  have h : At U g.method c below := by rw [hg]; exact X.here
  have hlocals9 : W9 + (maxL + 11) + (headSpec ws rm).room.locals ≤ R.locals := hlocals
  have happ : (headSpec ws rm).appliesLoose y e.platform (U.calling g mk a) = true :=
    Spec.appliesLoose_calling (g := g) h hdg hn hkY hinitY
      (X.room_calling (g := g) (R' := (headSpec ws rm).room) hsize hmY hcY hframes (by rw [hlY]; omega) h4 h5) h1
  obtain ⟨mid, hmid⟩ := h.above
  have hfr : (U.setTop g).frames = (.java g :: mid) ++ below := by rw [State.frames_setTop' g h.top, hmid]; rfl
  obtain ⟨o, s₂, hsteps, -, hend, hq⟩ := Steps.callFree hM p X.admits X.cas X.clock (acts := []) hfr happ hPc trivial
  have hq' : vx_Q Qc XC mc ms free a (U.calling g mk a) o s₂ := hq
  rw [State.frames_setTop' g h.top] at hend
  obtain ⟨g₀, hg0⟩ := Option.isSome_iff_exists.mp h.top
  obtain ⟨r, hr⟩ := State.topJava?_eq_some.mp hg0
  have hr' : (({ U with heap := s₂.heap, slotsUsed := s₂.slotsUsed } : State).setVm s₂.vm).frames = .java g₀ :: r := hr
  rcases hq' with ⟨hqc, L, hfe, hL⟩ | ⟨q, rfl, E, ce, L, hx, hce, hcv, hcl, hW₂, hsm, hL⟩
  · obtain ⟨⟨v, rfl⟩, hW₂, e2, q2, q3, q4, q5, q6⟩ := id hfe
    have e3 : s₂ = ({ (U.calling g mk a).setFrames s₂.frames with heap := s₂.heap, slotsUsed := s₂.slotsUsed } : State).setVm s₂.vm := by
      have : s₂ = ({ s₂ with vm := (U.calling g mk a).vm } : State).setVm s₂.vm := rfl
      rw [e2] at this
      exact this
    obtain ⟨c₂, i₂, len₂, hc₂, hd₂, hf₂⟩ := hend
    have hW' : U.WarmedH s₂.vm := hW₂
    have hcc : c₂ = c := by
      have h1 : s₂.code? g.method = U.code? g.method := by
        rw [State.code?_eq, State.code?_eq, hW'.alike.method?]
      exact Option.some.inj (hc₂.symm.trans (h1.trans h.code))
    subst hcc
    have hlen : len₂ = len := by rw [hdg] at hd₂; cases hd₂; rfl
    subst hlen
    have hs₂ : s₂ = (({ U with heap := s₂.heap, slotsUsed := s₂.slotsUsed } : State).setVm s₂.vm).setTop { g with pc := g.pc + len₂, stack := v.toList ++ g.stack } := by
      refine e3.trans ?_
      rw [hf₂, State.calling_eq h.top, State.setFrames_setFrames, State.setTop_of_frames _ hr', hr]
      rfl
    have hsame : U.sameButNew ({ U with heap := s₂.heap, slotsUsed := s₂.slotsUsed } : State) L mc ms := by
      refine ⟨?_, q2, q3, q4, q5, q6⟩
      obtain ⟨t, ht, -⟩ := State.frames_cons hr
      show ({ U with heap := s₂.heap, slotsUsed := s₂.slotsUsed } : State) = { U.setFrames U.frames with heap := s₂.heap, slotsUsed := s₂.slotsUsed }
      rw [State.setFrames_self ht]
    subst hg
    refine Or.inl ⟨v, ⟨(({ U with heap := s₂.heap, slotsUsed := s₂.slotsUsed } : State).setVm s₂.vm), Ls ++ L, c0 + mc, s0 + ms⟩,
      ⟨X.admits, X.cas, X.clock, X.frames, X.room, X.hears, X.method, X.code, (X.here.setHeapUsed s₂.heap s₂.slotsUsed).setVm hW'.alike, X.tail, State.WarmedH.trans X.warmed hW', X.limits, X.bytes, X.same.trans (hsame.setVm s.vm)⟩,
      ⟨g, mk, s₂, L, rfl, rfl, hqc, rfl, hL, rfl, rfl⟩, ?_⟩
    show Steps p.tables e below _ ((({ U with heap := s₂.heap, slotsUsed := s₂.slotsUsed } : State).setVm s₂.vm).setTop { g with pc := g.pc + len₂, stack := v.toList ++ g.stack })
    rw [← hs₂]
    exact hsteps
  · obtain ⟨e2, q2, q3, q4, q5, q6⟩ := id hsm
    have e3 : s₂ = ({ (U.calling g mk a).setFrames s₂.frames with heap := s₂.heap, slotsUsed := s₂.slotsUsed } : State).setVm s₂.vm := by
      have : s₂ = ({ s₂ with vm := (U.calling g mk a).vm } : State).setVm s₂.vm := rfl
      rw [e2] at this
      exact this
    have hf₂ : s₂.frames = .throwing q :: .java g :: U.frames.tail := hend
    have hW' : U.WarmedH s₂.vm := hW₂
    have hs₂ : s₂ = ((({ U with heap := s₂.heap, slotsUsed := s₂.slotsUsed } : State).setVm s₂.vm).setTop g).pushFrame (.throwing q) := by
      refine e3.trans ?_
      rw [hf₂, State.calling_eq h.top, State.setFrames_setFrames, State.pushFrame, State.frames_setTop _ hr', State.setTop_of_frames _ hr', State.setFrames_setFrames, hr]
      rfl
    have hsame : U.sameButNew ({ U with heap := s₂.heap, slotsUsed := s₂.slotsUsed } : State) L mc ms := by
      refine ⟨?_, q2, q3, q4, q5, q6⟩
      obtain ⟨t, ht, -⟩ := State.frames_cons hr
      show ({ U with heap := s₂.heap, slotsUsed := s₂.slotsUsed } : State) = { U.setFrames U.frames with heap := s₂.heap, slotsUsed := s₂.slotsUsed }
      rw [State.setFrames_self ht]
    subst hg
    refine Or.inr ⟨q, ⟨(({ U with heap := s₂.heap, slotsUsed := s₂.slotsUsed } : State).setVm s₂.vm), Ls ++ L, c0 + mc, s0 + ms⟩,
      ⟨X.admits, X.cas, X.clock, X.frames, X.room, X.hears, X.method, X.code, (X.here.setHeapUsed s₂.heap s₂.slotsUsed).setVm hW'.alike, X.tail, State.WarmedH.trans X.warmed hW', X.limits, X.bytes, X.same.trans (hsame.setVm s.vm)⟩,
      ⟨g, mk, s₂, L, E, ce, rfl, rfl, hx, hce, hcv, hcl, rfl, hL, rfl, rfl⟩, ?_⟩
    show Steps p.tables e below _ (((({ U with heap := s₂.heap, slotsUsed := s₂.slotsUsed } : State).setVm s₂.vm).setTop g).pushFrame (.throwing q))
    rw [← hs₂]
    exact hsteps
end
variable {p : Program} {l : Launch} {e : Env} {R : Room} {s : State} {m : MethodId} {args : Array Value} {below : List Frame} {meth : Method} {c : Code} {T : State} {H : Heap} {locs : List Loc} {cells slots : Nat}
theorem vx_callVX (X : Stand p l e R s m args below meth c T locs cells slots) (hexec : p.tables.exec = Jvm.exec) {own C : String} {index : Nat} {y : MethodName} {bytes : ByteArray} {maxL : Nat} {ret : Option FieldType} {hh : List (Nat × Nat × Nat × Nat)}
    (hown : s.vm.findClass own = some m.cls) (hlink : (Cond.methodLink own index y).before args s = true) (hinst : (Cond.instanceMethod y).before args s = true) (hsel : (Cond.selects C y y).before args s = true)
    (hcode : (Cond.codeWith y bytes maxL ret hh).before args s = true) (hy : y.cls ≠ "java/lang/invoke/MethodHandle" ∧ y.cls ≠ "java/lang/invoke/VarHandle")
    {W9 : Nat} {Pre : Pt → Array Value → Prop} {Post : Pt → Array Value → Option Value → Pt → Prop} {PostX : Pt → Array Value → Addr → Pt → Prop} (hK : vx_Back l R p e below s args y 3 W9 Pre Post PostX)
    {b : Addr} {cellB : Cell} (hcell : T.heap[b]? = some cellB) (hobj : cellB.vm.isStatics = false) (hcls : s.vm.findClass C = some cellB.cls)
    {g : JFrame} (hg : g.method = m) (hsize : g.locals.size = c.maxLocals) {argsL rest : List Value} (hlen : ∀ sig, parseMethodDescriptor y.desc = some sig → argsL.length = sig.parameters.length)
    (hstack : g.stack = argsL.reverse ++ .ref b :: rest) (hW : 2 * g.monitorRoom + (rest.map fun v => v.category).sum ≤ W9) (hdg : decode c.code g.pc = .ok (.invokevirtual index, 3))
    (hpre : ∀ vm₁, s.WarmedH vm₁ → Pre ⟨T.setVm vm₁, locs, cells, slots⟩ (Value.ref b :: argsL).toArray) :
    (∃ (v : Option Value) (vm₁ : Vm) (B : Pt), s.WarmedH vm₁ ∧ Stand p l e R s m args below meth c B.U B.locs B.cells B.slots ∧ Post ⟨T.setVm vm₁, locs, cells, slots⟩ (Value.ref b :: argsL).toArray v B ∧
      ∀ target, Steps p.tables e below (B.U.setTop { g with pc := g.pc + 3, stack := v.toList ++ rest }) target → Steps p.tables e below (T.setTop g) target) ∨
    (∃ (q : Addr) (vm₁ : Vm) (B : Pt), s.WarmedH vm₁ ∧ Stand p l e R s m args below meth c B.U B.locs B.cells B.slots ∧ PostX ⟨T.setVm vm₁, locs, cells, slots⟩ (Value.ref b :: argsL).toArray q B ∧
      Steps p.tables e below (T.setTop g) ((B.U.setTop { g with stack := rest }).pushFrame (.throwing q))) := by
  obtain ⟨mk, methM, hnamed, hmethM, hstM, habM⟩ := Cond.instanceMethod_spec hinst
  obtain ⟨m8, methM', cM, hn8, hmethM', -, -, -, -, -, -, hsigM⟩ := Cond.codeWith_spec hcode
  cases Option.some.inj (hn8.symm.trans hnamed)
  cases hmethM.symm.trans hmethM'
  obtain ⟨c2, r2, m2, q1, q2, q3, q4, kP, hkP, hkPi⟩ := Cond.selects_spec hsel
  cases hcls.symm.trans q1
  cases (State.methodFound?_of_named hnamed hy).symm.trans q2
  cases hnamed.symm.trans q3
  have hselP : selectMethod e.platform s.vm cellB.cls mk = .method mk := by rw [Launch.admits_selectMethod X.admits]; exact q4
  obtain ⟨vm₁, X₁, hstep₁⟩ := X.invokevirtual hexec hown hlink hnamed hmethM hstM hkP hkPi hy (a := b) (cell := cellB) hcell
    (fun z h => by rw [h] at hobj; cases hobj) hselP hmethM habM hkP hkPi (g := g) hg (argsL := argsL) (rest := rest) (hlen _ hsigM) hstack hdg
  rcases hK m meth c ⟨T.setVm vm₁, locs, cells, slots⟩ { g with stack := rest } (.invokevirtual index) mk (Value.ref b :: argsL).toArray X₁ hg hsize hdg hW (X₁.named hnamed) (hpre vm₁ X₁.warmed) with ⟨v, B, X', hpost, hsteps⟩ | ⟨q, B, X', hpost, hsteps⟩
  · exact Or.inl ⟨v, vm₁, B, X₁.warmed, X', hpost, fun target h => hstep₁ _ fun acts => by rw [doInvoke_state]; exact hsteps.trans h⟩
  · exact Or.inr ⟨q, vm₁, B, X₁.warmed, X', hpost, hstep₁ _ fun acts => by rw [doInvoke_state]; exact hsteps⟩
theorem vx_callSX (X : Stand p l e R s m args below meth c T locs cells slots) (hexec : p.tables.exec = Jvm.exec) {own : String} {index : Nat} {y : MethodName} {bytes : ByteArray} {maxL : Nat} {ret : Option FieldType} {hh : List (Nat × Nat × Nat × Nat)}
    (hown : s.vm.findClass own = some m.cls) (hlink : (Cond.methodLink own index y).before args s = true) (hstat : (Cond.static y).before args s = true) (hinit : (Cond.initialized y.cls).before args s = true)
    (hcode : (Cond.codeWith y bytes maxL ret hh).before args s = true) (hy : y.cls ≠ "java/lang/invoke/MethodHandle" ∧ y.cls ≠ "java/lang/invoke/VarHandle")
    {W9 : Nat} {Pre : Pt → Array Value → Prop} {Post : Pt → Array Value → Option Value → Pt → Prop} {PostX : Pt → Array Value → Addr → Pt → Prop} (hK : vx_Back l R p e below s args y 3 W9 Pre Post PostX)
    {g : JFrame} (hg : g.method = m) (hsize : g.locals.size = c.maxLocals) {argsL rest : List Value} (hlen : ∀ sig, parseMethodDescriptor y.desc = some sig → argsL.length = sig.parameters.length)
    (hstack : g.stack = argsL.reverse ++ rest) (hW : 2 * g.monitorRoom + (rest.map fun v => v.category).sum ≤ W9) (hdg : decode c.code g.pc = .ok (.invokestatic index, 3))
    (hpre : ∀ vm₁, s.WarmedH vm₁ → Pre ⟨T.setVm vm₁, locs, cells, slots⟩ argsL.toArray) :
    (∃ (v : Option Value) (vm₁ : Vm) (B : Pt), s.WarmedH vm₁ ∧ Stand p l e R s m args below meth c B.U B.locs B.cells B.slots ∧ Post ⟨T.setVm vm₁, locs, cells, slots⟩ argsL.toArray v B ∧
      ∀ target, Steps p.tables e below (B.U.setTop { g with pc := g.pc + 3, stack := v.toList ++ rest }) target → Steps p.tables e below (T.setTop g) target) ∨
    (∃ (q : Addr) (vm₁ : Vm) (B : Pt), s.WarmedH vm₁ ∧ Stand p l e R s m args below meth c B.U B.locs B.cells B.slots ∧ PostX ⟨T.setVm vm₁, locs, cells, slots⟩ argsL.toArray q B ∧
      Steps p.tables e below (T.setTop g) ((B.U.setTop { g with stack := rest }).pushFrame (.throwing q))) := by
  obtain ⟨mk, methM, cM, hnamed, hmethM, -, -, -, -, -, -, hsigM⟩ := Cond.codeWith_spec hcode
  have hstatic : methM.isStatic = true := Cond.static_spec hnamed hmethM hstat
  obtain ⟨kP, hkP, -⟩ := className_of_methodNamed hnamed
  have hinitP : kP.init = .initialized := Cond.initialized_spec (findClass_of_methodNamed hnamed) hkP hinit
  obtain ⟨vm₁, X₁, hstep₁⟩ := X.invokestatic hexec hown hlink hnamed hmethM hstatic hkP hinitP hy (g := g) hg (argsL := argsL) (rest := rest) (hlen _ hsigM) hstack hdg
  rcases hK m meth c ⟨T.setVm vm₁, locs, cells, slots⟩ { g with stack := rest } (.invokestatic index) mk argsL.toArray X₁ hg hsize hdg hW (X₁.named hnamed) (hpre vm₁ X₁.warmed) with ⟨v, B, X', hpost, hsteps⟩ | ⟨q, B, X', hpost, hsteps⟩
  · exact Or.inl ⟨v, vm₁, B, X₁.warmed, X', hpost, fun target h => hstep₁ _ fun acts => by rw [doInvoke_state]; exact hsteps.trans h⟩
  · exact Or.inr ⟨q, vm₁, B, X₁.warmed, X', hpost, hstep₁ _ fun acts => by rw [doInvoke_state]; exact hsteps⟩
theorem vx_callVW (X : Stand p l e R s m args below meth c T locs cells slots) (hexec : p.tables.exec = Jvm.exec) {own C : String} {index : Nat} {y : MethodName} {bytes : ByteArray} {maxL : Nat} {ret : Option FieldType} {hh : List (Nat × Nat × Nat × Nat)}
    (hown : s.vm.findClass own = some m.cls) (hlink : (Cond.methodLink own index y).before args s = true) (hinst : (Cond.instanceMethod y).before args s = true) (hsel : (Cond.selects C y y).before args s = true)
    (hcode : (Cond.codeWith y bytes maxL ret hh).before args s = true) (hy : y.cls ≠ "java/lang/invoke/MethodHandle" ∧ y.cls ≠ "java/lang/invoke/VarHandle")
    {W9 : Nat} {Pre : Pt → Array Value → Prop} {Post : Pt → Array Value → Option Value → Pt → Prop} (hK : Back l R p e below s args y 3 W9 Pre Post)
    {b : Addr} {cellB : Cell} (hcell : T.heap[b]? = some cellB) (hobj : cellB.vm.isStatics = false) (hcls : s.vm.findClass C = some cellB.cls)
    {g : JFrame} (hg : g.method = m) (hsize : g.locals.size = c.maxLocals) {argsL rest : List Value} (hlen : ∀ sig, parseMethodDescriptor y.desc = some sig → argsL.length = sig.parameters.length)
    (hstack : g.stack = argsL.reverse ++ .ref b :: rest) (hW : 2 * g.monitorRoom + (rest.map fun v => v.category).sum ≤ W9) (hdg : decode c.code g.pc = .ok (.invokevirtual index, 3))
    (hpre : ∀ vm₁, s.WarmedH vm₁ → Pre ⟨T.setVm vm₁, locs, cells, slots⟩ (Value.ref b :: argsL).toArray) :
    ∃ (v : Option Value) (vm₁ : Vm) (B : Pt), s.WarmedH vm₁ ∧ Stand p l e R s m args below meth c B.U B.locs B.cells B.slots ∧ Post ⟨T.setVm vm₁, locs, cells, slots⟩ (Value.ref b :: argsL).toArray v B ∧
      ∀ target, Steps p.tables e below (B.U.setTop { g with pc := g.pc + 3, stack := v.toList ++ rest }) target → Steps p.tables e below (T.setTop g) target := by
  obtain ⟨mk, methM, hnamed, hmethM, hstM, habM⟩ := Cond.instanceMethod_spec hinst
  obtain ⟨m8, methM', cM, hn8, hmethM', -, -, -, -, -, -, hsigM⟩ := Cond.codeWith_spec hcode
  cases Option.some.inj (hn8.symm.trans hnamed)
  cases hmethM.symm.trans hmethM'
  obtain ⟨c2, r2, m2, q1, q2, q3, q4, kP, hkP, hkPi⟩ := Cond.selects_spec hsel
  cases hcls.symm.trans q1
  cases (State.methodFound?_of_named hnamed hy).symm.trans q2
  cases hnamed.symm.trans q3
  have hselP : selectMethod e.platform s.vm cellB.cls mk = .method mk := by rw [Launch.admits_selectMethod X.admits]; exact q4
  obtain ⟨vm₁, X₁, hstep₁⟩ := X.invokevirtual hexec hown hlink hnamed hmethM hstM hkP hkPi hy (a := b) (cell := cellB) hcell
    (fun z h => by rw [h] at hobj; cases hobj) hselP hmethM habM hkP hkPi (g := g) hg (argsL := argsL) (rest := rest) (hlen _ hsigM) hstack hdg
  obtain ⟨v, B, X', hpost, hsteps⟩ := hK m meth c ⟨T.setVm vm₁, locs, cells, slots⟩ { g with stack := rest } (.invokevirtual index) mk (Value.ref b :: argsL).toArray X₁ hg hsize hdg hW (X₁.named hnamed) (hpre vm₁ X₁.warmed)
  exact ⟨v, vm₁, B, X₁.warmed, X', hpost, fun target h => hstep₁ _ fun acts => by rw [doInvoke_state]; exact hsteps.trans h⟩
abbrev vx_CVW (R : Room) (s : State) (args : Array Value) (own C : String) (index : Nat) (y : MethodName) (bytes : ByteArray) (maxL : Nat) (ret : Option FieldType) (hh : List (Nat × Nat × Nat × Nat)) (ws : List Cond) (rm : Room) (mc ms n : Nat) : Prop :=
  (rm.cells = mc ∧ rm.slots = ms ∧ rm.frames + 1 ≤ R.frames ∧ 8 + (maxL + 11) + rm.locals ≤ R.locals ∧ (∀ w ∈ ws, ∀ (a' : Array Value) (U : State), s.WarmedH U.vm → w.before a' U = true) ∧ Cond.codeWith y bytes maxL ret hh ∈ ws) ∧
  (Cond.codeWith y bytes maxL ret hh).before args s = true ∧ (Cond.initialized y.cls).before args s = true ∧ (y.cls ≠ "java/lang/invoke/MethodHandle" ∧ y.cls ≠ "java/lang/invoke/VarHandle") ∧
  (∀ sig, parseMethodDescriptor y.desc = some sig → n = sig.parameters.length) ∧ (Cond.methodLink own index y).before args s = true ∧ (Cond.instanceMethod y).before args s = true ∧ (Cond.selects C y y).before args s = true
theorem vx_cwVW {own C : String} {index maxL mc ms : Nat} {y : MethodName} {bytes : ByteArray} {ret : Option FieldType} {hh : List (Nat × Nat × Nat × Nat)} {Ts ws ws' : List Cond} {rm : Room} (n : Nat) (ht : ∀ w ∈ Ts, w.before args s = true) (hT : GoodIn Ts (wsV own index C y ws)) (hw : ws = Cond.codeWith y bytes maxL ret hh :: ws') (hrc : rm.cells = mc) (hrs : rm.slots = ms)
    (hd : y.cls = C ∧ y.cls ≠ "java/lang/invoke/MethodHandle" ∧ y.cls ≠ "java/lang/invoke/VarHandle" ∧ (parseMethodDescriptor y.desc).map (fun d => d.parameters.length) = some n) (hR : rm.frames + 1 ≤ R.frames ∧ 8 + (maxL + 11) + rm.locals ≤ R.locals) :
    vx_CVW R s args own C index y bytes maxL ret hh ws rm mc ms n := by
  obtain ⟨hC, hd⟩ := hd
  subst hC
  have ok : ∀ w ∈ wsV own index y.cls y ws, w.before args s = true := fun w h => ht w (hT w h).1
  have hG : GoodIn Ts ws := fun w h => hT w (by unfold wsV; exact List.mem_append_right _ h)
  have hc : Cond.codeWith y bytes maxL ret hh ∈ ws := by rw [hw]; exact List.mem_cons_self
  refine ⟨⟨hrc, hrs, hR.1, hR.2, pay_in ht hG, hc⟩, ht _ (hG _ hc).1, ok _ (by simp [wsV]), ⟨hd.1, hd.2.1⟩, fun sig h => ?_, ok _ (by simp [wsV]), ok _ (by simp [wsV]), ok _ (by simp [wsV])⟩
  have h2 := hd.2.2
  rw [h] at h2
  exact (Option.some.inj h2).symm
theorem vx_runVW {y : MethodName} {bytes cc : ByteArray} {maxL nL mc ms n index : Nat} {ret : Option FieldType} {hh : List (Nat × Nat × Nat × Nat)} {ws : List Cond} {rm : Room} {Pc : Array Value → State → Prop} {Qc : Array Value → State → Outcome → State → Prop} {free : Addr → Prop} {Ts : List Cond} {own C : String} {b : Addr} {As rest : List Value} {g : JFrame}
    (S : CallFix p m c cc nL s args Ts own) (hM : Met l y ws rm Pc Qc mc ms free) (cw : vx_CVW R s args own C index y bytes maxL ret hh ws rm mc ms n) (hp : PreV s H C b Pc As)
    (hg : g.method = m) (hn : As.length = n) (hsize : g.locals.size = nL) (hstack : g.stack = As.reverse ++ .ref b :: rest) (hW : 2 * g.monitorRoom + (rest.map fun v => v.category).sum ≤ 8) (hdg : decode cc g.pc = .ok (.invokevirtual index, 3)) (hf : cells + mc ≤ R.cells ∧ slots + ms ≤ R.slots) :
    va_Run p l e R s m args below meth c H locs cells slots mc ms g rest (Qc (Value.ref b :: As).toArray) free := by
  obtain ⟨⟨hrc, hrs, hfr, hlo, hws, hcw⟩, hcode, hini, hy, hlen, hl, hin, hse⟩ := cw
  have hK : Back l R p e below s args y 3 8 (PreOf R mc ms Pc) (PostOf Qc mc ms free) := va_backW (hh := hh) (bytes := bytes) (maxL := maxL) (ret := ret) hM hp.1 hrc hrs hfr hlo hws hcw (fun a' U hW => word_at hW (Or.inl (by first | rfl | simp [Cond.onTables, Cond.keeps, Cond.steady])) hini)
  obtain ⟨hx, hb, hml, ho, -⟩ := S
  obtain ⟨-, ⟨cellB, hcB, hoB, hclB⟩, hPc⟩ := hp
  intro T hT X
  obtain ⟨v, vm₁, ⟨U', l2, c2, s2⟩, hW₁, X', ⟨g', mk, t, L, e1, e2, hq, h1, hL, h2, h3⟩, st⟩ := vx_callVW X hx (C := C) (hh := hh) (bytes := bytes) (maxL := maxL) (ret := ret) ho hl hin hse hcode hy hK (by rw [hT]; exact hcB) hoB hclB hg (hsize.trans hml.symm) (argsL := As) (rest := rest) (fun sig h => hn.trans (hlen sig h)) hstack hW (by rw [hb]; exact hdg)
    (fun vm₁ hW₁ => ⟨hf.1, hf.2, hPc (T.setVm vm₁) hT hW₁⟩)
  dsimp only [Pt.U, Pt.locs, Pt.cells, Pt.slots] at X' e1 e2 h1 h2 h3 st
  subst h1; subst h2; subst h3
  exact ⟨v, (T.setVm vm₁).calling g' mk (Value.ref b :: As).toArray, t, U', L, hT, X', hL, e1, e2, hq, st⟩
section
variable {y : MethodName} {bytes cc : ByteArray} {maxL nL mc ms n index : Nat} {ret : Option FieldType} {ws : List Cond} {rm : Room} {Pc : Array Value → State → Prop} {Qc : Array Value → State → Outcome → State → Prop} {XC : String → State → State → Prop} {free : Addr → Prop} {Ts : List Cond} {own C : String} {b : Addr} {As rest : List Value} {g : JFrame}
theorem vx_runVX {hh : List (Nat × Nat × Nat × Nat)} (S : CallFix p m c cc nL s args Ts own) (hM : vx_Met l y ws rm Pc Qc XC mc ms free) (cw : vx_CVW R s args own C index y bytes maxL ret hh ws rm mc ms n) (hp : PreV s H C b Pc As)
    (hg : g.method = m) (hn : As.length = n) (hsize : g.locals.size = nL) (hstack : g.stack = As.reverse ++ .ref b :: rest) (hW : 2 * g.monitorRoom + (rest.map fun v => v.category).sum ≤ 8) (hdg : decode cc g.pc = .ok (.invokevirtual index, 3)) (hf : cells + mc ≤ R.cells ∧ slots + ms ≤ R.slots) :
    vx_Run p l e R s m args below meth c H locs cells slots mc ms g rest (Qc (Value.ref b :: As).toArray) XC free := by
  obtain ⟨⟨hrc, hrs, hfr, hlo, hws, hcw⟩, hcode, hini, hy, hlen, hl, hin, hse⟩ := cw
  have hK : vx_Back l R p e below s args y 3 8 (PreOf R mc ms Pc) (PostOf Qc mc ms free) (vx_Post XC mc ms free) := vx_backW (hh := hh) (bytes := bytes) (maxL := maxL) (ret := ret) hM hp.1 hrc hrs hfr hlo hws hcw (fun a' U hW => word_at hW (Or.inl (by first | rfl | simp [Cond.onTables, Cond.keeps, Cond.steady])) hini)
  obtain ⟨hx, hb, hml, ho, -⟩ := S
  obtain ⟨-, ⟨cellB, hcB, hoB, hclB⟩, hPc⟩ := hp
  intro T hT X
  rcases vx_callVX X hx (C := C) (hh := hh) (bytes := bytes) (maxL := maxL) (ret := ret) ho hl hin hse hcode hy hK (by rw [hT]; exact hcB) hoB hclB hg (hsize.trans hml.symm) (argsL := As) (rest := rest) (fun sig h => hn.trans (hlen sig h)) hstack hW (by rw [hb]; exact hdg)
    (fun vm₁ hW₁ => ⟨hf.1, hf.2, hPc (T.setVm vm₁) hT hW₁⟩) with ⟨v, vm₁, ⟨U', l2, c2, s2⟩, hW₁, X', ⟨g', mk, t, L, e1, e2, hq, h1, hL, h2, h3⟩, st⟩ | ⟨q, vm₁, ⟨U', l2, c2, s2⟩, hW₁, X', ⟨g', mk, t, L, E, ce, e1, e2, hq, hce, hcv, hcl, h1, hL, h2, h3⟩, st⟩
  · dsimp only [Pt.U, Pt.locs, Pt.cells, Pt.slots] at X' e1 e2 h1 h2 h3 st
    subst h1; subst h2; subst h3
    exact Or.inl ⟨v, (T.setVm vm₁).calling g' mk (Value.ref b :: As).toArray, t, U', L, hT, X', hL, e1, e2, hq, st⟩
  · dsimp only [Pt.U, Pt.locs, Pt.cells, Pt.slots] at X' e1 e2 h1 h2 h3 st hcl
    subst h1; subst h2; subst h3
    exact Or.inr ⟨q, (T.setVm vm₁).calling g' mk (Value.ref b :: As).toArray, t, U', L, E, ce, hT, X', hL, e1, e2, hq, hce, hcv, vx_cls hW₁ hcl, st⟩
theorem vx_runSX {hh : List (Nat × Nat × Nat × Nat)} (S : CallFix p m c cc nL s args Ts own) (hM : vx_Met l y ws rm Pc Qc XC mc ms free) (cw : vx_CSW R s args own index y bytes maxL ret hh ws rm mc ms n) (hp : PreS s H Pc As)
    (hg : g.method = m) (hn : As.length = n) (hsize : g.locals.size = nL) (hstack : g.stack = As.reverse ++ rest) (hW : 2 * g.monitorRoom + (rest.map fun v => v.category).sum ≤ 8) (hdg : decode cc g.pc = .ok (.invokestatic index, 3)) (hf : cells + mc ≤ R.cells ∧ slots + ms ≤ R.slots) :
    vx_Run p l e R s m args below meth c H locs cells slots mc ms g rest (Qc As.toArray) XC free := by
  obtain ⟨⟨hrc, hrs, hfr, hlo, hws, hcw⟩, hcode, hini, hy, hlen, hl, hstt⟩ := cw
  have hK : vx_Back l R p e below s args y 3 8 (PreOf R mc ms Pc) (PostOf Qc mc ms free) (vx_Post XC mc ms free) := vx_backW (hh := hh) (bytes := bytes) (maxL := maxL) (ret := ret) hM hp.1 hrc hrs hfr hlo hws hcw (fun a' U hW => word_at hW (Or.inl (by first | rfl | simp [Cond.onTables, Cond.keeps, Cond.steady])) hini)
  obtain ⟨hx, hb, hml, ho, -⟩ := S
  intro T hT X
  rcases vx_callSX X hx (hh := hh) (bytes := bytes) (maxL := maxL) (ret := ret) ho hl hstt hini hcode hy hK hg (hsize.trans hml.symm) (argsL := As) (rest := rest) (fun sig h => hn.trans (hlen sig h)) hstack hW (by rw [hb]; exact hdg)
    (fun vm₁ hW₁ => ⟨hf.1, hf.2, hp.2 (T.setVm vm₁) hT hW₁⟩) with ⟨v, vm₁, ⟨U', l2, c2, s2⟩, hW₁, X', ⟨g', mk, t, L, e1, e2, hq, h1, hL, h2, h3⟩, st⟩ | ⟨q, vm₁, ⟨U', l2, c2, s2⟩, hW₁, X', ⟨g', mk, t, L, E, ce, e1, e2, hq, hce, hcv, hcl, h1, hL, h2, h3⟩, st⟩
  · dsimp only [Pt.U, Pt.locs, Pt.cells, Pt.slots] at X' e1 e2 h1 h2 h3 st
    subst h1; subst h2; subst h3
    exact Or.inl ⟨v, (T.setVm vm₁).calling g' mk As.toArray, t, U', L, hT, X', hL, e1, e2, hq, st⟩
  · dsimp only [Pt.U, Pt.locs, Pt.cells, Pt.slots] at X' e1 e2 h1 h2 h3 st hcl
    subst h1; subst h2; subst h3
    exact Or.inr ⟨q, (T.setVm vm₁).calling g' mk As.toArray, t, U', L, E, ce, hT, X', hL, e1, e2, hq, hce, hcv, vx_cls hW₁ hcl, st⟩
end
end VXH
theorem vx_ofWH {l : Launch} {y : MethodName} {ws ws' : List Cond} {rm : Room} {Pc : Array Value → State → Prop} {Qc : Array Value → State → Outcome → State → Prop} {XC : String → State → State → Prop} {mc ms : Nat} {free : Addr → Prop} {cc : ByteArray} {maxL : Nat} {ret : Option FieldType} {hh : List (Nat × Nat × Nat × Nat)}
    (hy : plainName y.cls = true) (hw : ws = Cond.codeWith y cc maxL ret hh :: ws')
    (body : ∀ p e s m args below meth c s₁, BodyLoose p l y (headSpec ws rm) cc maxL ret e s m args below meth c s₁ → c.maxLocals = maxL → Pc args s →
      W p l e (headSpec ws rm).room s m args below meth c s.heap [] 0 0 (vx_MQ below Qc XC args s mc ms free) (entryFrame m args maxL)) : vx_Met l y ws rm Pc Qc XC mc ms free := by
  refine MetFree.of_bodyS (code := cc) (maxLocals := maxL) (ret := ret) hy ?_ ?_
  · intro args s m h hn
    obtain ⟨m9, meth, c, hn9, h1, h2, h3, h4, -, h5, h6, -⟩ := Cond.codeWith_spec (atoms_spec (ws := ws) h _ (by rw [hw]; exact List.mem_cons_self))
    cases hn.symm.trans hn9
    exact ⟨meth, c, h1, h2, h3, h4, h5, h6⟩
  · intro p e s m args below meth c s₁ B hml hP _
    have hh0 : s₁.heap = s.heap := by rw [B.state]; rfl
    obtain ⟨t, a1, o, b1, b2, b3⟩ := body p e s m args below meth c s₁ B hml hP s₁ hh0 (Stand.of_body B)
    exact ⟨t, o, a1, b1, b2, b3⟩
/-! ===== END ===== -/
end
section
/-! ===== BEGIN printed: names, fields, word lists, decode rows ===== -/
def RX0 : String := "RegionNets$Net"
def TX0 : u_T := fun k => match k with
  | 0 => ("RegionNets$Net", "steps", "LRegionNets$Steps;", true)
  | 1 => ("RegionNets$Net", "regions", "LRegionNets$Regions;", true)
  | 2 => ("RegionNets$Net", "made", "Z", false)
  | 3 => ("RegionNets$Net", "places", "I", false)
  | 4 => ("RegionNets$Net", "placeSets", "[I", true)
  | 5 => ("RegionNets$Net", "takes", "[I", true)
  | 6 => ("RegionNets$Net", "gives", "[I", true)
  | 7 => ("RegionNets$Net", "first", "I", false)
  | 8 => ("RegionNets$Net", "present", "I", false)
  | 9 => ("RegionNets$Net", "markings", "[I", true)
  | _ => ("RegionNets$Net", "found", "I", false)
def tyX0 : Nat → FieldType := fun k => match k with
  | 0 => .object "RegionNets$Steps"
  | 1 => .object "RegionNets$Regions"
  | 2 => .boolean
  | 3 => .int
  | 4 => .array .int
  | 5 => .array .int
  | 6 => .array .int
  | 7 => .int
  | 8 => .int
  | 9 => .array .int
  | _ => .int
abbrev wsX00 : List Cond := u_ws RX0 TX0 11
theorem nmX0 : ∀ a, a < 11 → ∀ b, b < 11 → a ≠ b → (TX0 a).2.1 ≠ (TX0 b).2.1 := by decide +kernel
theorem tyX0_ok : ∀ k, k < 11 → parseFieldDescriptor (TX0 k).2.2.1 = some (tyX0 k) := by decide +kernel
abbrev cX0_init : ByteArray := prog_2_method_1_code
def yX0_init : MethodName := ⟨RX0, "<init>", "(LRegionNets$Steps;LRegionNets$Regions;)V"⟩
abbrev cX0_make : ByteArray := prog_2_method_2_code
def yX0_make : MethodName := ⟨RX0, "make", "()V"⟩
abbrev cX0_choosePlaces : ByteArray := prog_2_method_3_code
def yX0_choosePlaces : MethodName := ⟨RX0, "choosePlaces", "()V"⟩
abbrev cX0_holdsPlace : ByteArray := prog_2_method_4_code
def yX0_holdsPlace : MethodName := ⟨RX0, "holdsPlace", "(I)Z"⟩
abbrev cX0_placesCrossed : ByteArray := prog_2_method_5_code
def yX0_placesCrossed : MethodName := ⟨RX0, "placesCrossed", "(II)I"⟩
abbrev cX0_placesWith : ByteArray := prog_2_method_6_code
def yX0_placesWith : MethodName := ⟨RX0, "placesWith", "(I)I"⟩
abbrev cX0_regionOf : ByteArray := prog_2_method_7_code
def yX0_regionOf : MethodName := ⟨RX0, "regionOf", "(I)I"⟩
abbrev cX0_takenBy : ByteArray := prog_2_method_8_code
def yX0_takenBy : MethodName := ⟨RX0, "takenBy", "(I)I"⟩
abbrev cX0_givenBy : ByteArray := prog_2_method_9_code
def yX0_givenBy : MethodName := ⟨RX0, "givenBy", "(I)I"⟩
abbrev cX0_canFire : ByteArray := prog_2_method_10_code
def yX0_canFire : MethodName := ⟨RX0, "canFire", "(II)Z"⟩
abbrev cX0_behind : ByteArray := prog_2_method_11_code
def yX0_behind : MethodName := ⟨RX0, "behind", "(II)I"⟩
abbrev cX0_markingsFound : ByteArray := prog_2_method_12_code
def yX0_markingsFound : MethodName := ⟨RX0, "markingsFound", "()I"⟩
abbrev cX0_markingFound : ByteArray := prog_2_method_13_code
def yX0_markingFound : MethodName := ⟨RX0, "markingFound", "(I)I"⟩
abbrev cX0_findMarkings : ByteArray := prog_2_method_14_code
def yX0_findMarkings : MethodName := ⟨RX0, "findMarkings", "()V"⟩
abbrev cX0_keepNew : ByteArray := prog_2_method_15_code
def yX0_keepNew : MethodName := ⟨RX0, "keepNew", "(I)V"⟩
abbrev cX0_behavesLikeSystem : ByteArray := prog_2_method_16_code
def yX0_behavesLikeSystem : MethodName := ⟨RX0, "behavesLikeSystem", "()Z"⟩
abbrev cX0_isMatched : ByteArray := prog_2_method_17_code
def yX0_isMatched : MethodName := ⟨RX0, "isMatched", "(II)Z"⟩
def RX1 : String := "RegionNets$Regions"
def TX1 : u_T := fun k => match k with
  | 0 => ("RegionNets$Regions", "steps", "LRegionNets$Steps;", true)
  | 1 => ("RegionNets$Regions", "sets", "[I", true)
  | 2 => ("RegionNets$Regions", "count", "I", false)
  | _ => ("RegionNets$Regions", "known", "Z", false)
def tyX1 : Nat → FieldType := fun k => match k with
  | 0 => .object "RegionNets$Steps"
  | 1 => .array .int
  | 2 => .int
  | _ => .boolean
abbrev wsX10 : List Cond := u_ws RX1 TX1 4
theorem nmX1 : ∀ a, a < 4 → ∀ b, b < 4 → a ≠ b → (TX1 a).2.1 ≠ (TX1 b).2.1 := by decide +kernel
theorem tyX1_ok : ∀ k, k < 4 → parseFieldDescriptor (TX1 k).2.2.1 = some (tyX1 k) := by decide +kernel
abbrev cX1_init : ByteArray := prog_3_method_1_code
def yX1_init : MethodName := ⟨RX1, "<init>", "(LRegionNets$Steps;)V"⟩
abbrev cX1_isOne : ByteArray := prog_3_method_2_code
def yX1_isOne : MethodName := ⟨RX1, "isOne", "(I)Z"⟩
abbrev cX1_count : ByteArray := prog_3_method_3_code
def yX1_count : MethodName := ⟨RX1, "count", "()I"⟩
abbrev cX1_search : ByteArray := prog_3_method_4_code
def yX1_search : MethodName := ⟨RX1, "search", "()V"⟩
abbrev cX1_at : ByteArray := prog_3_method_5_code
def yX1_at : MethodName := ⟨RX1, "at", "(I)I"⟩
abbrev cX1_hasNoPart : ByteArray := prog_3_method_6_code
def yX1_hasNoPart : MethodName := ⟨RX1, "hasNoPart", "(I)Z"⟩
abbrev cX1_firstApart : ByteArray := prog_3_method_7_code
def yX1_firstApart : MethodName := ⟨RX1, "firstApart", "(II)I"⟩
abbrev cX1_firstPreventing : ByteArray := prog_3_method_8_code
def yX1_firstPreventing : MethodName := ⟨RX1, "firstPreventing", "(II)I"⟩
abbrev cX1_prevents : ByteArray := prog_3_method_9_code
def yX1_prevents : MethodName := ⟨RX1, "prevents", "(III)Z"⟩
abbrev cX1_pairsNotApart : ByteArray := prog_3_method_10_code
def yX1_pairsNotApart : MethodName := ⟨RX1, "pairsNotApart", "()I"⟩
abbrev cX1_pairsNotPrevented : ByteArray := prog_3_method_11_code
def yX1_pairsNotPrevented : MethodName := ⟨RX1, "pairsNotPrevented", "()I"⟩
abbrev cX1_preventedIn : ByteArray := prog_3_method_12_code
def yX1_preventedIn : MethodName := ⟨RX1, "preventedIn", "(I)I"⟩
def RX2 : String := "RegionNets$Steps"
def TX2 : u_T := fun k => match k with
  | 0 => ("RegionNets$Steps", "states", "I", false)
  | 1 => ("RegionNets$Steps", "ends", "[[I", true)
  | 2 => ("RegionNets$Steps", "begins", "[I", true)
  | 3 => ("RegionNets$Steps", "lowSources", "[[I", true)
  | _ => ("RegionNets$Steps", "highSources", "[[I", true)
def tyX2 : Nat → FieldType := fun k => match k with
  | 0 => .int
  | 1 => .array (.array .int)
  | 2 => .array .int
  | 3 => .array (.array .int)
  | _ => .array (.array .int)
abbrev wsX20 : List Cond := u_ws RX2 TX2 5
theorem nmX2 : ∀ a, a < 5 → ∀ b, b < 5 → a ≠ b → (TX2 a).2.1 ≠ (TX2 b).2.1 := by decide +kernel
theorem tyX2_ok : ∀ k, k < 5 → parseFieldDescriptor (TX2 k).2.2.1 = some (tyX2 k) := by decide +kernel
abbrev cX2_init : ByteArray := prog_4_method_1_code
def yX2_init : MethodName := ⟨RX2, "<init>", "()V"⟩
abbrev cX2_all : ByteArray := prog_4_method_2_code
def yX2_all : MethodName := ⟨RX2, "all", "()I"⟩
abbrev cX2_end : ByteArray := prog_4_method_3_code
def yX2_end : MethodName := ⟨RX2, "end", "(II)I"⟩
abbrev cX2_beginning : ByteArray := prog_4_method_4_code
def yX2_beginning : MethodName := ⟨RX2, "beginning", "(I)I"⟩
abbrev cX2_put : ByteArray := prog_4_method_5_code
def yX2_put : MethodName := ⟨RX2, "put", "(III)V"⟩
abbrev cX2_move : ByteArray := prog_4_method_6_code
def yX2_move : MethodName := ⟨RX2, "move", "(II)V"⟩
abbrev cX2_setEnd : ByteArray := prog_4_method_7_code
def yX2_setEnd : MethodName := ⟨RX2, "setEnd", "(III)V"⟩
abbrev cX2_learnSources : ByteArray := prog_4_method_8_code
def yX2_learnSources : MethodName := ⟨RX2, "learnSources", "(I)V"⟩
abbrev cX2_learnHalf : ByteArray := prog_4_method_9_code
def yX2_learnHalf : MethodName := ⟨RX2, "learnHalf", "(II[I)V"⟩
abbrev cX2_beginsOfStepsTo : ByteArray := prog_4_method_10_code
def yX2_beginsOfStepsTo : MethodName := ⟨RX2, "beginsOfStepsTo", "(II)I"⟩
abbrev cX2_sourcesOf : ByteArray := prog_4_method_11_code
def yX2_sourcesOf : MethodName := ⟨RX2, "sourcesOf", "(II)I"⟩
abbrev cX2_way : ByteArray := prog_4_method_12_code
def yX2_way : MethodName := ⟨RX2, "way", "(II)I"⟩
abbrev cX2_firstMixed : ByteArray := prog_4_method_13_code
def yX2_firstMixed : MethodName := ⟨RX2, "firstMixed", "(I)I"⟩
abbrev cX2_grown : ByteArray := prog_4_method_14_code
def yX2_grown : MethodName := ⟨RX2, "grown", "(I)I"⟩
abbrev cX2_growth : ByteArray := prog_4_method_15_code
def yX2_growth : MethodName := ⟨RX2, "growth", "(II)I"⟩
abbrev cX2_endsOf : ByteArray := prog_4_method_16_code
def yX2_endsOf : MethodName := ⟨RX2, "endsOf", "(I)I"⟩
abbrev cX2_reachedStates : ByteArray := prog_4_method_17_code
def yX2_reachedStates : MethodName := ⟨RX2, "reachedStates", "()I"⟩
abbrev cX2_distanceTo : ByteArray := prog_4_method_18_code
def yX2_distanceTo : MethodName := ⟨RX2, "distanceTo", "(I)I"⟩
abbrev cX2_nextStates : ByteArray := prog_4_method_19_code
def yX2_nextStates : MethodName := ⟨RX2, "nextStates", "(I)I"⟩
abbrev cX2_statePairs : ByteArray := prog_4_method_20_code
def yX2_statePairs : MethodName := ⟨RX2, "statePairs", "()I"⟩
abbrev cX2_stopsOf : ByteArray := prog_4_method_21_code
def yX2_stopsOf : MethodName := ⟨RX2, "stopsOf", "(I)I"⟩
abbrev cX2_stopPairs : ByteArray := prog_4_method_22_code
def yX2_stopPairs : MethodName := ⟨RX2, "stopPairs", "()I"⟩
def RX3 : String := "RegionNets"
def TX3 : u_T := fun k => match k with
  | 0 => ("RegionNets", "steps", "LRegionNets$Steps;", true)
  | 1 => ("RegionNets", "regions", "LRegionNets$Regions;", true)
  | _ => ("RegionNets", "net", "LRegionNets$Net;", true)
def tyX3 : Nat → FieldType := fun k => match k with
  | 0 => .object "RegionNets$Steps"
  | 1 => .object "RegionNets$Regions"
  | _ => .object "RegionNets$Net"
abbrev wsX30 : List Cond := u_ws RX3 TX3 3
theorem nmX3 : ∀ a, a < 3 → ∀ b, b < 3 → a ≠ b → (TX3 a).2.1 ≠ (TX3 b).2.1 := by decide +kernel
theorem tyX3_ok : ∀ k, k < 3 → parseFieldDescriptor (TX3 k).2.2.1 = some (tyX3 k) := by decide +kernel
abbrev cX3_init : ByteArray := prog_1_method_1_code
def yX3_init : MethodName := ⟨RX3, "<init>", "()V"⟩
abbrev cX3_addState : ByteArray := prog_1_method_2_code
def yX3_addState : MethodName := ⟨RX3, "addState", "()I"⟩
abbrev cX3_step : ByteArray := prog_1_method_3_code
def yX3_step : MethodName := ⟨RX3, "step", "(III)I"⟩
abbrev cX3_unstep : ByteArray := prog_1_method_4_code
def yX3_unstep : MethodName := ⟨RX3, "unstep", "(II)Z"⟩
abbrev cX3_rename : ByteArray := prog_1_method_5_code
def yX3_rename : MethodName := ⟨RX3, "rename", "(II)I"⟩
abbrev cX3_stateCount : ByteArray := prog_1_method_6_code
def yX3_stateCount : MethodName := ⟨RX3, "stateCount", "()I"⟩
abbrev cX3_target : ByteArray := prog_1_method_7_code
def yX3_target : MethodName := ⟨RX3, "target", "(II)I"⟩
abbrev cX3_enabled : ByteArray := prog_1_method_8_code
def yX3_enabled : MethodName := ⟨RX3, "enabled", "(I)I"⟩
abbrev cX3_reached : ByteArray := prog_1_method_9_code
def yX3_reached : MethodName := ⟨RX3, "reached", "()I"⟩
abbrev cX3_distance : ByteArray := prog_1_method_10_code
def yX3_distance : MethodName := ⟨RX3, "distance", "(I)I"⟩
abbrev cX3_crossing : ByteArray := prog_1_method_11_code
def yX3_crossing : MethodName := ⟨RX3, "crossing", "(II)I"⟩
abbrev cX3_isRegion : ByteArray := prog_1_method_12_code
def yX3_isRegion : MethodName := ⟨RX3, "isRegion", "(I)Z"⟩
abbrev cX3_regionCount : ByteArray := prog_1_method_13_code
def yX3_regionCount : MethodName := ⟨RX3, "regionCount", "()I"⟩
abbrev cX3_region : ByteArray := prog_1_method_14_code
def yX3_region : MethodName := ⟨RX3, "region", "(I)I"⟩
abbrev cX3_isLeast : ByteArray := prog_1_method_15_code
def yX3_isLeast : MethodName := ⟨RX3, "isLeast", "(I)Z"⟩
abbrev cX3_grow : ByteArray := prog_1_method_16_code
def yX3_grow : MethodName := ⟨RX3, "grow", "(I)I"⟩
abbrev cX3_apart : ByteArray := prog_1_method_17_code
def yX3_apart : MethodName := ⟨RX3, "apart", "(II)I"⟩
abbrev cX3_preventer : ByteArray := prog_1_method_18_code
def yX3_preventer : MethodName := ⟨RX3, "preventer", "(II)I"⟩
abbrev cX3_lumps : ByteArray := prog_1_method_19_code
def yX3_lumps : MethodName := ⟨RX3, "lumps", "()I"⟩
abbrev cX3_leaks : ByteArray := prog_1_method_20_code
def yX3_leaks : MethodName := ⟨RX3, "leaks", "()I"⟩
abbrev cX3_fidelity : ByteArray := prog_1_method_21_code
def yX3_fidelity : MethodName := ⟨RX3, "fidelity", "()D"⟩
abbrev cX3_makeNet : ByteArray := prog_1_method_22_code
def yX3_makeNet : MethodName := ⟨RX3, "makeNet", "()I"⟩
abbrev cX3_hasNet : ByteArray := prog_1_method_23_code
def yX3_hasNet : MethodName := ⟨RX3, "hasNet", "()Z"⟩
abbrev cX3_placeRegion : ByteArray := prog_1_method_24_code
def yX3_placeRegion : MethodName := ⟨RX3, "placeRegion", "(I)I"⟩
abbrev cX3_consumed : ByteArray := prog_1_method_25_code
def yX3_consumed : MethodName := ⟨RX3, "consumed", "(I)I"⟩
abbrev cX3_produced : ByteArray := prog_1_method_26_code
def yX3_produced : MethodName := ⟨RX3, "produced", "(I)I"⟩
abbrev cX3_marking : ByteArray := prog_1_method_27_code
def yX3_marking : MethodName := ⟨RX3, "marking", "()I"⟩
abbrev cX3_fire : ByteArray := prog_1_method_28_code
def yX3_fire : MethodName := ⟨RX3, "fire", "(I)I"⟩
abbrev cX3_markingCount : ByteArray := prog_1_method_29_code
def yX3_markingCount : MethodName := ⟨RX3, "markingCount", "()I"⟩
abbrev cX3_markingAt : ByteArray := prog_1_method_30_code
def yX3_markingAt : MethodName := ⟨RX3, "markingAt", "(I)I"⟩
abbrev cX3_isFaithful : ByteArray := prog_1_method_31_code
def yX3_isFaithful : MethodName := ⟨RX3, "isFaithful", "()Z"⟩
abbrev cX3_digest : ByteArray := prog_1_method_32_code
def yX3_digest : MethodName := ⟨RX3, "digest", "()J"⟩
abbrev cX3_mixed : ByteArray := prog_1_method_33_code
def yX3_mixed : MethodName := ⟨RX3, "mixed", "(JI)J"⟩
abbrev cX3_changed : ByteArray := prog_1_method_34_code
def yX3_changed : MethodName := ⟨RX3, "changed", "()V"⟩
abbrev cX3_needState : ByteArray := prog_1_method_35_code
def yX3_needState : MethodName := ⟨RX3, "needState", "(I)V"⟩
abbrev cX3_needLabel : ByteArray := prog_1_method_36_code
def yX3_needLabel : MethodName := ⟨RX3, "needLabel", "(I)V"⟩
abbrev cX3_needSet : ByteArray := prog_1_method_37_code
def yX3_needSet : MethodName := ⟨RX3, "needSet", "(I)V"⟩
abbrev cX3_needRegion : ByteArray := prog_1_method_38_code
def yX3_needRegion : MethodName := ⟨RX3, "needRegion", "(I)V"⟩
abbrev cX3_needNet : ByteArray := prog_1_method_39_code
def yX3_needNet : MethodName := ⟨RX3, "needNet", "()V"⟩
abbrev cX3_has : ByteArray := prog_1_method_40_code
def yX3_has : MethodName := ⟨RX3, "has", "(II)Z"⟩
def RX4 : String := "RegionNetsModel"
def TX4 : u_T := fun k => match k with
  | 0 => ("RegionNetsModel", "thrown", "I", false)
  | 1 => ("RegionNetsModel", "states", "I", false)
  | 2 => ("RegionNetsModel", "targets", "[I", true)
  | 3 => ("RegionNetsModel", "isKnown", "Z", false)
  | 4 => ("RegionNetsModel", "regions", "I", false)
  | 5 => ("RegionNetsModel", "sets", "[I", true)
  | 6 => ("RegionNetsModel", "isNet", "Z", false)
  | 7 => ("RegionNetsModel", "places", "I", false)
  | 8 => ("RegionNetsModel", "placeSets", "[I", true)
  | 9 => ("RegionNetsModel", "marking", "I", false)
  | 10 => ("RegionNetsModel", "markings", "I", false)
  | _ => ("RegionNetsModel", "found", "[I", true)
def tyX4 : Nat → FieldType := fun k => match k with
  | 0 => .int
  | 1 => .int
  | 2 => .array .int
  | 3 => .boolean
  | 4 => .int
  | 5 => .array .int
  | 6 => .boolean
  | 7 => .int
  | 8 => .array .int
  | 9 => .int
  | 10 => .int
  | _ => .array .int
abbrev wsX40 : List Cond := u_ws RX4 TX4 12
theorem nmX4 : ∀ a, a < 12 → ∀ b, b < 12 → a ≠ b → (TX4 a).2.1 ≠ (TX4 b).2.1 := by decide +kernel
theorem tyX4_ok : ∀ k, k < 12 → parseFieldDescriptor (TX4 k).2.2.1 = some (tyX4 k) := by decide +kernel
abbrev cX4_init : ByteArray := prog_6_method_1_code
def yX4_init : MethodName := ⟨RX4, "<init>", "()V"⟩
abbrev cX4_thrown : ByteArray := prog_6_method_2_code
def yX4_thrown : MethodName := ⟨RX4, "thrown", "()I"⟩
abbrev cX4_fail : ByteArray := prog_6_method_3_code
def yX4_fail : MethodName := ⟨RX4, "fail", "(I)I"⟩
abbrev cX4_isState : ByteArray := prog_6_method_4_code
def yX4_isState : MethodName := ⟨RX4, "isState", "(I)Z"⟩
abbrev cX4_isLabel : ByteArray := prog_6_method_5_code
def yX4_isLabel : MethodName := ⟨RX4, "isLabel", "(I)Z"⟩
abbrev cX4_isSet : ByteArray := prog_6_method_6_code
def yX4_isSet : MethodName := ⟨RX4, "isSet", "(I)Z"⟩
abbrev cX4_has : ByteArray := prog_6_method_7_code
def yX4_has : MethodName := ⟨RX4, "has", "(II)Z"⟩
abbrev cX4_to : ByteArray := prog_6_method_8_code
def yX4_to : MethodName := ⟨RX4, "to", "(II)I"⟩
abbrev cX4_change : ByteArray := prog_6_method_9_code
def yX4_change : MethodName := ⟨RX4, "change", "()V"⟩
abbrev cX4_addState : ByteArray := prog_6_method_10_code
def yX4_addState : MethodName := ⟨RX4, "addState", "()I"⟩
abbrev cX4_step : ByteArray := prog_6_method_11_code
def yX4_step : MethodName := ⟨RX4, "step", "(III)I"⟩
abbrev cX4_unstep : ByteArray := prog_6_method_12_code
def yX4_unstep : MethodName := ⟨RX4, "unstep", "(II)Z"⟩
abbrev cX4_rename : ByteArray := prog_6_method_13_code
def yX4_rename : MethodName := ⟨RX4, "rename", "(II)I"⟩
abbrev cX4_stateCount : ByteArray := prog_6_method_14_code
def yX4_stateCount : MethodName := ⟨RX4, "stateCount", "()I"⟩
abbrev cX4_target : ByteArray := prog_6_method_15_code
def yX4_target : MethodName := ⟨RX4, "target", "(II)I"⟩
abbrev cX4_enabled : ByteArray := prog_6_method_16_code
def yX4_enabled : MethodName := ⟨RX4, "enabled", "(I)I"⟩
abbrev cX4_goOn : ByteArray := prog_6_method_17_code
def yX4_goOn : MethodName := ⟨RX4, "goOn", "(I)I"⟩
abbrev cX4_reached : ByteArray := prog_6_method_18_code
def yX4_reached : MethodName := ⟨RX4, "reached", "()I"⟩
abbrev cX4_distance : ByteArray := prog_6_method_19_code
def yX4_distance : MethodName := ⟨RX4, "distance", "(I)I"⟩
abbrev cX4_way : ByteArray := prog_6_method_20_code
def yX4_way : MethodName := ⟨RX4, "way", "(II)I"⟩
abbrev cX4_mixed : ByteArray := prog_6_method_21_code
def yX4_mixed : MethodName := ⟨RX4, "mixed", "(I)I"⟩
abbrev cX4_isProper : ByteArray := prog_6_method_22_code
def yX4_isProper : MethodName := ⟨RX4, "isProper", "(I)Z"⟩
abbrev cX4_know : ByteArray := prog_6_method_23_code
def yX4_know : MethodName := ⟨RX4, "know", "()V"⟩
abbrev cX4_crossing : ByteArray := prog_6_method_24_code
def yX4_crossing : MethodName := ⟨RX4, "crossing", "(II)I"⟩
abbrev cX4_isRegion : ByteArray := prog_6_method_25_code
def yX4_isRegion : MethodName := ⟨RX4, "isRegion", "(I)Z"⟩
abbrev cX4_regionCount : ByteArray := prog_6_method_26_code
def yX4_regionCount : MethodName := ⟨RX4, "regionCount", "()I"⟩
abbrev cX4_region : ByteArray := prog_6_method_27_code
def yX4_region : MethodName := ⟨RX4, "region", "(I)I"⟩
abbrev cX4_isSmallest : ByteArray := prog_6_method_28_code
def yX4_isSmallest : MethodName := ⟨RX4, "isSmallest", "(I)Z"⟩
abbrev cX4_isLeast : ByteArray := prog_6_method_29_code
def yX4_isLeast : MethodName := ⟨RX4, "isLeast", "(I)Z"⟩
abbrev cX4_ends : ByteArray := prog_6_method_30_code
def yX4_ends : MethodName := ⟨RX4, "ends", "(IZ)I"⟩
abbrev cX4_grow : ByteArray := prog_6_method_31_code
def yX4_grow : MethodName := ⟨RX4, "grow", "(I)I"⟩
abbrev cX4_firstApart : ByteArray := prog_6_method_32_code
def yX4_firstApart : MethodName := ⟨RX4, "firstApart", "(II)I"⟩
abbrev cX4_apart : ByteArray := prog_6_method_33_code
def yX4_apart : MethodName := ⟨RX4, "apart", "(II)I"⟩
abbrev cX4_firstPreventer : ByteArray := prog_6_method_34_code
def yX4_firstPreventer : MethodName := ⟨RX4, "firstPreventer", "(II)I"⟩
abbrev cX4_preventer : ByteArray := prog_6_method_35_code
def yX4_preventer : MethodName := ⟨RX4, "preventer", "(II)I"⟩
abbrev cX4_lumpCount : ByteArray := prog_6_method_36_code
def yX4_lumpCount : MethodName := ⟨RX4, "lumpCount", "()I"⟩
abbrev cX4_lumps : ByteArray := prog_6_method_37_code
def yX4_lumps : MethodName := ⟨RX4, "lumps", "()I"⟩
abbrev cX4_isAsked : ByteArray := prog_6_method_38_code
def yX4_isAsked : MethodName := ⟨RX4, "isAsked", "(II)Z"⟩
abbrev cX4_leakCount : ByteArray := prog_6_method_39_code
def yX4_leakCount : MethodName := ⟨RX4, "leakCount", "()I"⟩
abbrev cX4_leaks : ByteArray := prog_6_method_40_code
def yX4_leaks : MethodName := ⟨RX4, "leaks", "()I"⟩
abbrev cX4_fidelity : ByteArray := prog_6_method_41_code
def yX4_fidelity : MethodName := ⟨RX4, "fidelity", "()D"⟩
abbrev cX4_firstMarking : ByteArray := prog_6_method_42_code
def yX4_firstMarking : MethodName := ⟨RX4, "firstMarking", "()I"⟩
abbrev cX4_makeNet : ByteArray := prog_6_method_43_code
def yX4_makeNet : MethodName := ⟨RX4, "makeNet", "()I"⟩
abbrev cX4_hasNet : ByteArray := prog_6_method_44_code
def yX4_hasNet : MethodName := ⟨RX4, "hasNet", "()Z"⟩
abbrev cX4_asks : ByteArray := prog_6_method_45_code
def yX4_asks : MethodName := ⟨RX4, "asks", "(II)Z"⟩
abbrev cX4_placeRegion : ByteArray := prog_6_method_46_code
def yX4_placeRegion : MethodName := ⟨RX4, "placeRegion", "(I)I"⟩
abbrev cX4_crossed : ByteArray := prog_6_method_47_code
def yX4_crossed : MethodName := ⟨RX4, "crossed", "(II)I"⟩
abbrev cX4_consumed : ByteArray := prog_6_method_48_code
def yX4_consumed : MethodName := ⟨RX4, "consumed", "(I)I"⟩
abbrev cX4_produced : ByteArray := prog_6_method_49_code
def yX4_produced : MethodName := ⟨RX4, "produced", "(I)I"⟩
abbrev cX4_marking : ByteArray := prog_6_method_50_code
def yX4_marking : MethodName := ⟨RX4, "marking", "()I"⟩
abbrev cX4_behind : ByteArray := prog_6_method_51_code
def yX4_behind : MethodName := ⟨RX4, "behind", "(II)I"⟩
abbrev cX4_fire : ByteArray := prog_6_method_52_code
def yX4_fire : MethodName := ⟨RX4, "fire", "(I)I"⟩
abbrev cX4_numberOf : ByteArray := prog_6_method_53_code
def yX4_numberOf : MethodName := ⟨RX4, "numberOf", "(I)I"⟩
abbrev cX4_findMarkings : ByteArray := prog_6_method_54_code
def yX4_findMarkings : MethodName := ⟨RX4, "findMarkings", "()V"⟩
abbrev cX4_markingCount : ByteArray := prog_6_method_55_code
def yX4_markingCount : MethodName := ⟨RX4, "markingCount", "()I"⟩
abbrev cX4_markingAt : ByteArray := prog_6_method_56_code
def yX4_markingAt : MethodName := ⟨RX4, "markingAt", "(I)I"⟩
abbrev cX4_isFaithful : ByteArray := prog_6_method_57_code
def yX4_isFaithful : MethodName := ⟨RX4, "isFaithful", "()Z"⟩
abbrev cX4_digest : ByteArray := prog_6_method_58_code
def yX4_digest : MethodName := ⟨RX4, "digest", "()J"⟩
def RJ6 : String := "java/lang/Integer"
def TJ6 : u_T := fun k => match k with
  | _ => ("", "", "", false)
def tyJ6 : Nat → FieldType := fun k => match k with
  | _ => .int
abbrev wsJ60 : List Cond := u_ws RJ6 TJ6 0
theorem nmJ6 : ∀ a, a < 0 → ∀ b, b < 0 → a ≠ b → (TJ6 a).2.1 ≠ (TJ6 b).2.1 := by decide +kernel
theorem tyJ6_ok : ∀ k, k < 0 → parseFieldDescriptor (TJ6 k).2.2.1 = some (tyJ6 k) := by decide +kernel
abbrev cJ6_bitCount_0f7a4 : ByteArray := prog_11_method_49_code
def yJ6_bitCount_0f7a4 : MethodName := ⟨RJ6, "bitCount", "(I)I"⟩
def RJ0 : String := "java/lang/String"
def TJ0 : u_T := fun k => match k with
  | _ => ("", "", "", false)
def tyJ0 : Nat → FieldType := fun k => match k with
  | _ => .int
abbrev wsJ00 : List Cond := u_ws RJ0 TJ0 0
theorem nmJ0 : ∀ a, a < 0 → ∀ b, b < 0 → a ≠ b → (TJ0 a).2.1 ≠ (TJ0 b).2.1 := by decide +kernel
theorem tyJ0_ok : ∀ k, k < 0 → parseFieldDescriptor (TJ0 k).2.2.1 = some (tyJ0 k) := by decide +kernel
def RL : String := "RegionNetsLaw"
abbrev cL_addState : ByteArray := method_3_code
def yL_addState : MethodName := ⟨RL, "addState", "(LRegionNets;[J)I"⟩
abbrev cL_step : ByteArray := method_4_code
def yL_step : MethodName := ⟨RL, "step", "(LRegionNets;III[J)I"⟩
abbrev cL_unstep : ByteArray := method_5_code
def yL_unstep : MethodName := ⟨RL, "unstep", "(LRegionNets;II[J)I"⟩
abbrev cL_rename : ByteArray := method_6_code
def yL_rename : MethodName := ⟨RL, "rename", "(LRegionNets;II[J)I"⟩
abbrev cL_target : ByteArray := method_7_code
def yL_target : MethodName := ⟨RL, "target", "(LRegionNets;II[J)I"⟩
abbrev cL_enabled : ByteArray := method_8_code
def yL_enabled : MethodName := ⟨RL, "enabled", "(LRegionNets;I[J)I"⟩
abbrev cL_distance : ByteArray := method_9_code
def yL_distance : MethodName := ⟨RL, "distance", "(LRegionNets;I[J)I"⟩
abbrev cL_crossing : ByteArray := method_10_code
def yL_crossing : MethodName := ⟨RL, "crossing", "(LRegionNets;II[J)I"⟩
abbrev cL_isRegion : ByteArray := method_11_code
def yL_isRegion : MethodName := ⟨RL, "isRegion", "(LRegionNets;I[J)I"⟩
abbrev cL_region : ByteArray := method_12_code
def yL_region : MethodName := ⟨RL, "region", "(LRegionNets;I[J)I"⟩
abbrev cL_isLeast : ByteArray := method_13_code
def yL_isLeast : MethodName := ⟨RL, "isLeast", "(LRegionNets;I[J)I"⟩
abbrev cL_grow : ByteArray := method_14_code
def yL_grow : MethodName := ⟨RL, "grow", "(LRegionNets;I[J)I"⟩
abbrev cL_apart : ByteArray := method_15_code
def yL_apart : MethodName := ⟨RL, "apart", "(LRegionNets;II[J)I"⟩
abbrev cL_preventer : ByteArray := method_16_code
def yL_preventer : MethodName := ⟨RL, "preventer", "(LRegionNets;II[J)I"⟩
abbrev cL_placeRegion : ByteArray := method_17_code
def yL_placeRegion : MethodName := ⟨RL, "placeRegion", "(LRegionNets;I[J)I"⟩
abbrev cL_consumed : ByteArray := method_18_code
def yL_consumed : MethodName := ⟨RL, "consumed", "(LRegionNets;I[J)I"⟩
abbrev cL_produced : ByteArray := method_19_code
def yL_produced : MethodName := ⟨RL, "produced", "(LRegionNets;I[J)I"⟩
abbrev cL_marking : ByteArray := method_20_code
def yL_marking : MethodName := ⟨RL, "marking", "(LRegionNets;[J)I"⟩
abbrev cL_fire : ByteArray := method_21_code
def yL_fire : MethodName := ⟨RL, "fire", "(LRegionNets;I[J)I"⟩
abbrev cL_markingCount : ByteArray := method_22_code
def yL_markingCount : MethodName := ⟨RL, "markingCount", "(LRegionNets;[J)I"⟩
abbrev cL_markingAt : ByteArray := method_23_code
def yL_markingAt : MethodName := ⟨RL, "markingAt", "(LRegionNets;I[J)I"⟩
abbrev cL_isFaithful : ByteArray := method_24_code
def yL_isFaithful : MethodName := ⟨RL, "isFaithful", "(LRegionNets;[J)I"⟩
abbrev cL_law : ByteArray := code
def yL_law : MethodName := ⟨RL, "law", "([I)Z"⟩
def wsX0_init : List Cond := .code yX0_init cX0_init 3 none :: ([.methodLink RX0 3 objectInit, .instanceMethod objectInit, .code objectInit ⟨#[0xb1]⟩ 1 none, .fieldLink RX0 9 "RegionNets$Net" "steps" "LRegionNets$Steps;", .fieldLink RX0 15 "RegionNets$Net" "regions" "LRegionNets$Regions;", .arrayClass .int, .fieldLink RX0 19 "RegionNets$Net" "placeSets" "[I", .fieldLink RX0 23 "RegionNets$Net" "takes" "[I", .fieldLink RX0 26 "RegionNets$Net" "gives" "[I", .fieldLink RX0 29 "RegionNets$Net" "markings" "[I"] ++ wsX00)
def wsX2_all : List Cond := .code yX2_all cX2_all 1 (some .int) :: ([.fieldLink RX2 9 "RegionNets$Steps" "states" "I"] ++ wsX20)
def wsX2_sourcesOf : List Cond := .code yX2_sourcesOf cX2_sourcesOf 3 (some .int) :: ([.fieldLink RX2 24 "RegionNets$Steps" "lowSources" "[[I", .fieldLink RX2 27 "RegionNets$Steps" "highSources" "[[I"] ++ wsX20)
def wsX2_way : List Cond := .code yX2_way cX2_way 6 (some .int) :: ([.fieldLink RX2 20 "RegionNets$Steps" "begins" "[I", .methodLink RX2 46 yX2_sourcesOf, .instanceMethod yX2_sourcesOf, .selects RX2 yX2_sourcesOf yX2_sourcesOf, .initialized RX2, .code yX2_sourcesOf cX2_sourcesOf 3 (some .int), .fieldLink RX2 24 "RegionNets$Steps" "lowSources" "[[I", .fieldLink RX2 27 "RegionNets$Steps" "highSources" "[[I"] ++ wsX20)
def wsX2_firstMixed : List Cond := .code yX2_firstMixed cX2_firstMixed 3 (some .int) :: ([.methodLink RX2 49 yX2_way, .instanceMethod yX2_way, .selects RX2 yX2_way yX2_way, .initialized RX2, .code yX2_way cX2_way 6 (some .int), .fieldLink RX2 20 "RegionNets$Steps" "begins" "[I", .methodLink RX2 46 yX2_sourcesOf, .instanceMethod yX2_sourcesOf, .selects RX2 yX2_sourcesOf yX2_sourcesOf, .code yX2_sourcesOf cX2_sourcesOf 3 (some .int), .fieldLink RX2 24 "RegionNets$Steps" "lowSources" "[[I", .fieldLink RX2 27 "RegionNets$Steps" "highSources" "[[I"] ++ wsX20)
def wsX1_search : List Cond := .code yX1_search cX1_search 3 none :: ([.fieldLink RX1 36 "RegionNets$Regions" "count" "I", .fieldLink RX1 9 "RegionNets$Regions" "steps" "LRegionNets$Steps;", .fieldLink RX1 15 "RegionNets$Regions" "sets" "[I", .methodLink RX1 19 yX2_all, .instanceMethod yX2_all, .selects RX2 yX2_all yX2_all, .initialized RX2, .code yX2_all cX2_all 1 (some .int), .fieldLink RX2 9 "RegionNets$Steps" "states" "I", .methodLink RX1 25 yX2_firstMixed, .instanceMethod yX2_firstMixed, .selects RX2 yX2_firstMixed yX2_firstMixed, .code yX2_firstMixed cX2_firstMixed 3 (some .int), .methodLink RX2 49 yX2_way, .instanceMethod yX2_way, .selects RX2 yX2_way yX2_way, .code yX2_way cX2_way 6 (some .int), .fieldLink RX2 20 "RegionNets$Steps" "begins" "[I", .methodLink RX2 46 yX2_sourcesOf, .instanceMethod yX2_sourcesOf, .selects RX2 yX2_sourcesOf yX2_sourcesOf, .code yX2_sourcesOf cX2_sourcesOf 3 (some .int), .fieldLink RX2 24 "RegionNets$Steps" "lowSources" "[[I", .fieldLink RX2 27 "RegionNets$Steps" "highSources" "[[I"] ++ wsX10 ++ wsX20)
def wsX1_count_r1 : List Cond := [Cond.fieldLink RX1 29 "RegionNets$Regions" "known" "Z", Cond.fieldLink RX1 36 "RegionNets$Regions" "count" "I", Cond.methodLink RX1 33 yX1_search, Cond.instanceMethod yX1_search, Cond.selects RX1 yX1_search yX1_search, Cond.initialized RX1, Cond.code yX1_search cX1_search 3 none, Cond.fieldLink RX1 9 "RegionNets$Regions" "steps" "LRegionNets$Steps;", Cond.fieldLink RX1 15 "RegionNets$Regions" "sets" "[I", Cond.methodLink RX1 19 yX2_all, Cond.instanceMethod yX2_all, Cond.selects RX2 yX2_all yX2_all, Cond.initialized RX2, Cond.code yX2_all cX2_all 1 (some .int), Cond.fieldLink RX2 9 "RegionNets$Steps" "states" "I", Cond.methodLink RX1 25 yX2_firstMixed, Cond.instanceMethod yX2_firstMixed, Cond.selects RX2 yX2_firstMixed yX2_firstMixed, Cond.code yX2_firstMixed cX2_firstMixed 3 (some .int), Cond.methodLink RX2 49 yX2_way, Cond.instanceMethod yX2_way, Cond.selects RX2 yX2_way yX2_way, Cond.code yX2_way cX2_way 6 (some .int), Cond.fieldLink RX2 20 "RegionNets$Steps" "begins" "[I"]
def wsX1_count_r2 : List Cond := [Cond.methodLink RX2 46 yX2_sourcesOf, Cond.instanceMethod yX2_sourcesOf, Cond.selects RX2 yX2_sourcesOf yX2_sourcesOf, Cond.code yX2_sourcesOf cX2_sourcesOf 3 (some .int), Cond.fieldLink RX2 24 "RegionNets$Steps" "lowSources" "[[I", Cond.fieldLink RX2 27 "RegionNets$Steps" "highSources" "[[I"]
def wsX1_count : List Cond := .code yX1_count cX1_count 1 (some .int) :: ((wsX1_count_r1 ++ wsX1_count_r2) ++ wsX10 ++ wsX20)
def wsX1_at : List Cond := .code yX1_at cX1_at 2 (some .int) :: ([.fieldLink RX1 15 "RegionNets$Regions" "sets" "[I"] ++ wsX10)
def wsX0_holdsPlace : List Cond := .code yX0_holdsPlace cX0_holdsPlace 3 (some .boolean) :: ([.fieldLink RX0 54 "RegionNets$Net" "places" "I", .fieldLink RX0 19 "RegionNets$Net" "placeSets" "[I"] ++ wsX00)
def wsX0_choosePlaces_r1 : List Cond := [Cond.fieldLink RX0 54 "RegionNets$Net" "places" "I", Cond.fieldLink RX0 15 "RegionNets$Net" "regions" "LRegionNets$Regions;", Cond.fieldLink RX0 19 "RegionNets$Net" "placeSets" "[I", Cond.methodLink RX0 57 yX1_count, Cond.instanceMethod yX1_count, Cond.selects RX1 yX1_count yX1_count, Cond.initialized RX1, Cond.code yX1_count cX1_count 1 (some .int), Cond.fieldLink RX1 29 "RegionNets$Regions" "known" "Z", Cond.fieldLink RX1 36 "RegionNets$Regions" "count" "I", Cond.methodLink RX1 33 yX1_search, Cond.instanceMethod yX1_search, Cond.selects RX1 yX1_search yX1_search, Cond.code yX1_search cX1_search 3 none, Cond.fieldLink RX1 9 "RegionNets$Regions" "steps" "LRegionNets$Steps;", Cond.fieldLink RX1 15 "RegionNets$Regions" "sets" "[I", Cond.methodLink RX1 19 yX2_all, Cond.instanceMethod yX2_all, Cond.selects RX2 yX2_all yX2_all, Cond.initialized RX2, Cond.code yX2_all cX2_all 1 (some .int), Cond.fieldLink RX2 9 "RegionNets$Steps" "states" "I", Cond.methodLink RX1 25 yX2_firstMixed, Cond.instanceMethod yX2_firstMixed]
def wsX0_choosePlaces_r2 : List Cond := [Cond.selects RX2 yX2_firstMixed yX2_firstMixed, Cond.code yX2_firstMixed cX2_firstMixed 3 (some .int), Cond.methodLink RX2 49 yX2_way, Cond.instanceMethod yX2_way, Cond.selects RX2 yX2_way yX2_way, Cond.code yX2_way cX2_way 6 (some .int), Cond.fieldLink RX2 20 "RegionNets$Steps" "begins" "[I", Cond.methodLink RX2 46 yX2_sourcesOf, Cond.instanceMethod yX2_sourcesOf, Cond.selects RX2 yX2_sourcesOf yX2_sourcesOf, Cond.code yX2_sourcesOf cX2_sourcesOf 3 (some .int), Cond.fieldLink RX2 24 "RegionNets$Steps" "lowSources" "[[I", Cond.fieldLink RX2 27 "RegionNets$Steps" "highSources" "[[I", Cond.methodLink RX0 63 yX1_at, Cond.instanceMethod yX1_at, Cond.selects RX1 yX1_at yX1_at, Cond.code yX1_at cX1_at 2 (some .int), Cond.methodLink RX0 66 yX0_holdsPlace, Cond.instanceMethod yX0_holdsPlace, Cond.selects RX0 yX0_holdsPlace yX0_holdsPlace, Cond.initialized RX0, Cond.code yX0_holdsPlace cX0_holdsPlace 3 (some .boolean)]
def wsX0_choosePlaces : List Cond := .code yX0_choosePlaces cX0_choosePlaces 4 none :: ((wsX0_choosePlaces_r1 ++ wsX0_choosePlaces_r2) ++ wsX00 ++ wsX10 ++ wsX20)
def wsX0_placesCrossed : List Cond := .code yX0_placesCrossed cX0_placesCrossed 5 (some .int) :: ([.fieldLink RX0 54 "RegionNets$Net" "places" "I", .fieldLink RX0 9 "RegionNets$Net" "steps" "LRegionNets$Steps;", .fieldLink RX0 19 "RegionNets$Net" "placeSets" "[I", .methodLink RX0 70 yX2_way, .instanceMethod yX2_way, .selects RX2 yX2_way yX2_way, .initialized RX2, .code yX2_way cX2_way 6 (some .int), .fieldLink RX2 20 "RegionNets$Steps" "begins" "[I", .methodLink RX2 46 yX2_sourcesOf, .instanceMethod yX2_sourcesOf, .selects RX2 yX2_sourcesOf yX2_sourcesOf, .code yX2_sourcesOf cX2_sourcesOf 3 (some .int), .fieldLink RX2 24 "RegionNets$Steps" "lowSources" "[[I", .fieldLink RX2 27 "RegionNets$Steps" "highSources" "[[I"] ++ wsX00 ++ wsX20)
def wsX3_has : List Cond := .code yX3_has cX3_has 2 (some .boolean) :: ([])
def wsX0_placesWith : List Cond := .code yX0_placesWith cX0_placesWith 4 (some .int) :: ([.fieldLink RX0 54 "RegionNets$Net" "places" "I", .fieldLink RX0 19 "RegionNets$Net" "placeSets" "[I", .static yX3_has, .initialized RX3, .code yX3_has cX3_has 2 (some .boolean)] ++ wsX00)
def wsX0_make_r1 : List Cond := [Cond.fieldLink RX0 23 "RegionNets$Net" "takes" "[I", Cond.fieldLink RX0 26 "RegionNets$Net" "gives" "[I", Cond.fieldLink RX0 43 "RegionNets$Net" "first" "I", Cond.fieldLink RX0 47 "RegionNets$Net" "found" "I", Cond.fieldLink RX0 50 "RegionNets$Net" "made" "Z", Cond.methodLink RX0 32 yX0_choosePlaces, Cond.instanceMethod yX0_choosePlaces, Cond.selects RX0 yX0_choosePlaces yX0_choosePlaces, Cond.initialized RX0, Cond.code yX0_choosePlaces cX0_choosePlaces 4 none, Cond.fieldLink RX0 54 "RegionNets$Net" "places" "I", Cond.fieldLink RX0 15 "RegionNets$Net" "regions" "LRegionNets$Regions;", Cond.fieldLink RX0 19 "RegionNets$Net" "placeSets" "[I", Cond.methodLink RX0 57 yX1_count, Cond.instanceMethod yX1_count, Cond.selects RX1 yX1_count yX1_count, Cond.initialized RX1, Cond.code yX1_count cX1_count 1 (some .int), Cond.fieldLink RX1 29 "RegionNets$Regions" "known" "Z", Cond.fieldLink RX1 36 "RegionNets$Regions" "count" "I", Cond.methodLink RX1 33 yX1_search, Cond.instanceMethod yX1_search, Cond.selects RX1 yX1_search yX1_search, Cond.code yX1_search cX1_search 3 none]
def wsX0_make_r2 : List Cond := [Cond.fieldLink RX1 9 "RegionNets$Regions" "steps" "LRegionNets$Steps;", Cond.fieldLink RX1 15 "RegionNets$Regions" "sets" "[I", Cond.methodLink RX1 19 yX2_all, Cond.instanceMethod yX2_all, Cond.selects RX2 yX2_all yX2_all, Cond.initialized RX2, Cond.code yX2_all cX2_all 1 (some .int), Cond.fieldLink RX2 9 "RegionNets$Steps" "states" "I", Cond.methodLink RX1 25 yX2_firstMixed, Cond.instanceMethod yX2_firstMixed, Cond.selects RX2 yX2_firstMixed yX2_firstMixed, Cond.code yX2_firstMixed cX2_firstMixed 3 (some .int), Cond.methodLink RX2 49 yX2_way, Cond.instanceMethod yX2_way, Cond.selects RX2 yX2_way yX2_way, Cond.code yX2_way cX2_way 6 (some .int), Cond.fieldLink RX2 20 "RegionNets$Steps" "begins" "[I", Cond.methodLink RX2 46 yX2_sourcesOf, Cond.instanceMethod yX2_sourcesOf, Cond.selects RX2 yX2_sourcesOf yX2_sourcesOf, Cond.code yX2_sourcesOf cX2_sourcesOf 3 (some .int), Cond.fieldLink RX2 24 "RegionNets$Steps" "lowSources" "[[I", Cond.fieldLink RX2 27 "RegionNets$Steps" "highSources" "[[I", Cond.methodLink RX0 63 yX1_at]
def wsX0_make_r3 : List Cond := [Cond.instanceMethod yX1_at, Cond.selects RX1 yX1_at yX1_at, Cond.code yX1_at cX1_at 2 (some .int), Cond.methodLink RX0 66 yX0_holdsPlace, Cond.instanceMethod yX0_holdsPlace, Cond.selects RX0 yX0_holdsPlace yX0_holdsPlace, Cond.code yX0_holdsPlace cX0_holdsPlace 3 (some .boolean), Cond.methodLink RX0 35 yX0_placesCrossed, Cond.instanceMethod yX0_placesCrossed, Cond.selects RX0 yX0_placesCrossed yX0_placesCrossed, Cond.code yX0_placesCrossed cX0_placesCrossed 5 (some .int), Cond.fieldLink RX0 9 "RegionNets$Net" "steps" "LRegionNets$Steps;", Cond.methodLink RX0 70 yX2_way, Cond.methodLink RX0 39 yX0_placesWith, Cond.instanceMethod yX0_placesWith, Cond.selects RX0 yX0_placesWith yX0_placesWith, Cond.code yX0_placesWith cX0_placesWith 4 (some .int), Cond.static yX3_has, Cond.initialized RX3, Cond.code yX3_has cX3_has 2 (some .boolean)]
def wsX0_make : List Cond := .code yX0_make cX0_make 2 none :: ((wsX0_make_r1 ++ (wsX0_make_r2 ++ wsX0_make_r3)) ++ wsX00 ++ wsX10 ++ wsX20)
def wsX0_regionOf : List Cond := .code yX0_regionOf cX0_regionOf 2 (some .int) :: ([.fieldLink RX0 19 "RegionNets$Net" "placeSets" "[I"] ++ wsX00)
def wsX0_takenBy : List Cond := .code yX0_takenBy cX0_takenBy 2 (some .int) :: ([.fieldLink RX0 23 "RegionNets$Net" "takes" "[I"] ++ wsX00)
def wsX0_givenBy : List Cond := .code yX0_givenBy cX0_givenBy 2 (some .int) :: ([.fieldLink RX0 26 "RegionNets$Net" "gives" "[I"] ++ wsX00)
def wsX2_beginning : List Cond := .code yX2_beginning cX2_beginning 2 (some .int) :: ([.fieldLink RX2 20 "RegionNets$Steps" "begins" "[I"] ++ wsX20)
def wsX0_canFire : List Cond := .code yX0_canFire cX0_canFire 3 (some .boolean) :: ([.fieldLink RX0 9 "RegionNets$Net" "steps" "LRegionNets$Steps;", .fieldLink RX0 23 "RegionNets$Net" "takes" "[I", .fieldLink RX0 26 "RegionNets$Net" "gives" "[I", .methodLink RX0 79 yX2_beginning, .instanceMethod yX2_beginning, .selects RX2 yX2_beginning yX2_beginning, .initialized RX2, .code yX2_beginning cX2_beginning 2 (some .int), .fieldLink RX2 20 "RegionNets$Steps" "begins" "[I"] ++ wsX00 ++ wsX20)
def wsX0_behind : List Cond := .code yX0_behind cX0_behind 3 (some .int) :: ([.fieldLink RX0 23 "RegionNets$Net" "takes" "[I", .fieldLink RX0 26 "RegionNets$Net" "gives" "[I"] ++ wsX00)
def wsX0_keepNew : List Cond := .code yX0_keepNew cX0_keepNew 3 none :: ([.fieldLink RX0 47 "RegionNets$Net" "found" "I", .fieldLink RX0 29 "RegionNets$Net" "markings" "[I"] ++ wsX00)
def wsX0_findMarkings_r1 : List Cond := [Cond.fieldLink RX0 29 "RegionNets$Net" "markings" "[I", Cond.fieldLink RX0 43 "RegionNets$Net" "first" "I", Cond.fieldLink RX0 47 "RegionNets$Net" "found" "I", Cond.methodLink RX0 85 yX0_canFire, Cond.instanceMethod yX0_canFire, Cond.selects RX0 yX0_canFire yX0_canFire, Cond.initialized RX0, Cond.code yX0_canFire cX0_canFire 3 (some .boolean), Cond.fieldLink RX0 9 "RegionNets$Net" "steps" "LRegionNets$Steps;", Cond.fieldLink RX0 23 "RegionNets$Net" "takes" "[I", Cond.fieldLink RX0 26 "RegionNets$Net" "gives" "[I", Cond.methodLink RX0 79 yX2_beginning, Cond.instanceMethod yX2_beginning, Cond.selects RX2 yX2_beginning yX2_beginning, Cond.initialized RX2, Cond.code yX2_beginning cX2_beginning 2 (some .int), Cond.fieldLink RX2 20 "RegionNets$Steps" "begins" "[I", Cond.methodLink RX0 88 yX0_behind, Cond.instanceMethod yX0_behind, Cond.selects RX0 yX0_behind yX0_behind, Cond.code yX0_behind cX0_behind 3 (some .int), Cond.methodLink RX0 91 yX0_keepNew, Cond.instanceMethod yX0_keepNew, Cond.selects RX0 yX0_keepNew yX0_keepNew]
def wsX0_findMarkings_r2 : List Cond := [Cond.code yX0_keepNew cX0_keepNew 3 none]
def wsX0_findMarkings : List Cond := .code yX0_findMarkings cX0_findMarkings 3 none :: ((wsX0_findMarkings_r1 ++ wsX0_findMarkings_r2) ++ wsX00 ++ wsX20)
def wsX0_markingsFound_r1 : List Cond := [Cond.fieldLink RX0 47 "RegionNets$Net" "found" "I", Cond.methodLink RX0 82 yX0_findMarkings, Cond.instanceMethod yX0_findMarkings, Cond.selects RX0 yX0_findMarkings yX0_findMarkings, Cond.initialized RX0, Cond.code yX0_findMarkings cX0_findMarkings 3 none, Cond.fieldLink RX0 29 "RegionNets$Net" "markings" "[I", Cond.fieldLink RX0 43 "RegionNets$Net" "first" "I", Cond.methodLink RX0 85 yX0_canFire, Cond.instanceMethod yX0_canFire, Cond.selects RX0 yX0_canFire yX0_canFire, Cond.code yX0_canFire cX0_canFire 3 (some .boolean), Cond.fieldLink RX0 9 "RegionNets$Net" "steps" "LRegionNets$Steps;", Cond.fieldLink RX0 23 "RegionNets$Net" "takes" "[I", Cond.fieldLink RX0 26 "RegionNets$Net" "gives" "[I", Cond.methodLink RX0 79 yX2_beginning, Cond.instanceMethod yX2_beginning, Cond.selects RX2 yX2_beginning yX2_beginning, Cond.initialized RX2, Cond.code yX2_beginning cX2_beginning 2 (some .int), Cond.fieldLink RX2 20 "RegionNets$Steps" "begins" "[I", Cond.methodLink RX0 88 yX0_behind, Cond.instanceMethod yX0_behind, Cond.selects RX0 yX0_behind yX0_behind]
def wsX0_markingsFound_r2 : List Cond := [Cond.code yX0_behind cX0_behind 3 (some .int), Cond.methodLink RX0 91 yX0_keepNew, Cond.instanceMethod yX0_keepNew, Cond.selects RX0 yX0_keepNew yX0_keepNew, Cond.code yX0_keepNew cX0_keepNew 3 none]
def wsX0_markingsFound : List Cond := .code yX0_markingsFound cX0_markingsFound 1 (some .int) :: ((wsX0_markingsFound_r1 ++ wsX0_markingsFound_r2) ++ wsX00 ++ wsX20)
def wsX0_markingFound : List Cond := .code yX0_markingFound cX0_markingFound 2 (some .int) :: ([.fieldLink RX0 29 "RegionNets$Net" "markings" "[I"] ++ wsX00)
def wsX2_nextStates : List Cond := .code yX2_nextStates cX2_nextStates 6 (some .int) :: ([.fieldLink RX2 9 "RegionNets$Steps" "states" "I", .fieldLink RX2 17 "RegionNets$Steps" "ends" "[[I", .static yX3_has, .initialized RX3, .code yX3_has cX3_has 2 (some .boolean)] ++ wsX20)
def wsX2_reachedStates : List Cond := .code yX2_reachedStates cX2_reachedStates 3 (some .int) :: ([.fieldLink RX2 9 "RegionNets$Steps" "states" "I", .methodLink RX2 62 yX2_nextStates, .instanceMethod yX2_nextStates, .selects RX2 yX2_nextStates yX2_nextStates, .initialized RX2, .code yX2_nextStates cX2_nextStates 6 (some .int), .fieldLink RX2 17 "RegionNets$Steps" "ends" "[[I", .static yX3_has, .initialized RX3, .code yX3_has cX3_has 2 (some .boolean)] ++ wsX20)
def wsX2_end : List Cond := .code yX2_end cX2_end 3 (some .int) :: ([.fieldLink RX2 17 "RegionNets$Steps" "ends" "[[I"] ++ wsX20)
def wsX0_isMatched_r1 : List Cond := [Cond.fieldLink RX0 9 "RegionNets$Net" "steps" "LRegionNets$Steps;", Cond.methodLink RX0 39 yX0_placesWith, Cond.instanceMethod yX0_placesWith, Cond.selects RX0 yX0_placesWith yX0_placesWith, Cond.initialized RX0, Cond.code yX0_placesWith cX0_placesWith 4 (some .int), Cond.fieldLink RX0 54 "RegionNets$Net" "places" "I", Cond.fieldLink RX0 19 "RegionNets$Net" "placeSets" "[I", Cond.static yX3_has, Cond.initialized RX3, Cond.code yX3_has cX3_has 2 (some .boolean), Cond.methodLink RX0 104 yX2_end, Cond.instanceMethod yX2_end, Cond.selects RX2 yX2_end yX2_end, Cond.initialized RX2, Cond.code yX2_end cX2_end 3 (some .int), Cond.fieldLink RX2 17 "RegionNets$Steps" "ends" "[[I", Cond.methodLink RX0 85 yX0_canFire, Cond.instanceMethod yX0_canFire, Cond.selects RX0 yX0_canFire yX0_canFire, Cond.code yX0_canFire cX0_canFire 3 (some .boolean), Cond.fieldLink RX0 23 "RegionNets$Net" "takes" "[I", Cond.fieldLink RX0 26 "RegionNets$Net" "gives" "[I", Cond.methodLink RX0 79 yX2_beginning]
def wsX0_isMatched_r2 : List Cond := [Cond.instanceMethod yX2_beginning, Cond.selects RX2 yX2_beginning yX2_beginning, Cond.code yX2_beginning cX2_beginning 2 (some .int), Cond.fieldLink RX2 20 "RegionNets$Steps" "begins" "[I"]
def wsX0_isMatched : List Cond := .code yX0_isMatched cX0_isMatched 6 (some .boolean) :: ((wsX0_isMatched_r1 ++ wsX0_isMatched_r2) ++ wsX00 ++ wsX20)
def wsX0_behavesLikeSystem_r1 : List Cond := [Cond.fieldLink RX0 9 "RegionNets$Net" "steps" "LRegionNets$Steps;", Cond.methodLink RX0 95 yX2_reachedStates, Cond.instanceMethod yX2_reachedStates, Cond.selects RX2 yX2_reachedStates yX2_reachedStates, Cond.initialized RX2, Cond.code yX2_reachedStates cX2_reachedStates 3 (some .int), Cond.fieldLink RX2 9 "RegionNets$Steps" "states" "I", Cond.methodLink RX2 62 yX2_nextStates, Cond.instanceMethod yX2_nextStates, Cond.selects RX2 yX2_nextStates yX2_nextStates, Cond.code yX2_nextStates cX2_nextStates 6 (some .int), Cond.fieldLink RX2 17 "RegionNets$Steps" "ends" "[[I", Cond.static yX3_has, Cond.initialized RX3, Cond.code yX3_has cX3_has 2 (some .boolean), Cond.methodLink RX0 101 yX0_isMatched, Cond.instanceMethod yX0_isMatched, Cond.selects RX0 yX0_isMatched yX0_isMatched, Cond.initialized RX0, Cond.code yX0_isMatched cX0_isMatched 6 (some .boolean), Cond.methodLink RX0 39 yX0_placesWith, Cond.instanceMethod yX0_placesWith, Cond.selects RX0 yX0_placesWith yX0_placesWith, Cond.code yX0_placesWith cX0_placesWith 4 (some .int)]
def wsX0_behavesLikeSystem_r2 : List Cond := [Cond.fieldLink RX0 54 "RegionNets$Net" "places" "I", Cond.fieldLink RX0 19 "RegionNets$Net" "placeSets" "[I", Cond.methodLink RX0 104 yX2_end, Cond.instanceMethod yX2_end, Cond.selects RX2 yX2_end yX2_end, Cond.code yX2_end cX2_end 3 (some .int), Cond.methodLink RX0 85 yX0_canFire, Cond.instanceMethod yX0_canFire, Cond.selects RX0 yX0_canFire yX0_canFire, Cond.code yX0_canFire cX0_canFire 3 (some .boolean), Cond.fieldLink RX0 23 "RegionNets$Net" "takes" "[I", Cond.fieldLink RX0 26 "RegionNets$Net" "gives" "[I", Cond.methodLink RX0 79 yX2_beginning, Cond.instanceMethod yX2_beginning, Cond.selects RX2 yX2_beginning yX2_beginning, Cond.code yX2_beginning cX2_beginning 2 (some .int), Cond.fieldLink RX2 20 "RegionNets$Steps" "begins" "[I"]
def wsX0_behavesLikeSystem : List Cond := .code yX0_behavesLikeSystem cX0_behavesLikeSystem 3 (some .boolean) :: ((wsX0_behavesLikeSystem_r1 ++ wsX0_behavesLikeSystem_r2) ++ wsX00 ++ wsX20)
def wsX1_init : List Cond := .code yX1_init cX1_init 2 none :: ([.methodLink RX1 3 objectInit, .instanceMethod objectInit, .code objectInit ⟨#[0xb1]⟩ 1 none, .fieldLink RX1 9 "RegionNets$Regions" "steps" "LRegionNets$Steps;", .arrayClass .int, .fieldLink RX1 15 "RegionNets$Regions" "sets" "[I"] ++ wsX10)
def wsX1_isOne : List Cond := .code yX1_isOne cX1_isOne 2 (some .boolean) :: ([.fieldLink RX1 9 "RegionNets$Regions" "steps" "LRegionNets$Steps;", .methodLink RX1 19 yX2_all, .instanceMethod yX2_all, .selects RX2 yX2_all yX2_all, .initialized RX2, .code yX2_all cX2_all 1 (some .int), .fieldLink RX2 9 "RegionNets$Steps" "states" "I", .methodLink RX1 25 yX2_firstMixed, .instanceMethod yX2_firstMixed, .selects RX2 yX2_firstMixed yX2_firstMixed, .code yX2_firstMixed cX2_firstMixed 3 (some .int), .methodLink RX2 49 yX2_way, .instanceMethod yX2_way, .selects RX2 yX2_way yX2_way, .code yX2_way cX2_way 6 (some .int), .fieldLink RX2 20 "RegionNets$Steps" "begins" "[I", .methodLink RX2 46 yX2_sourcesOf, .instanceMethod yX2_sourcesOf, .selects RX2 yX2_sourcesOf yX2_sourcesOf, .code yX2_sourcesOf cX2_sourcesOf 3 (some .int), .fieldLink RX2 24 "RegionNets$Steps" "lowSources" "[[I", .fieldLink RX2 27 "RegionNets$Steps" "highSources" "[[I"] ++ wsX10 ++ wsX20)
def wsX1_hasNoPart : List Cond := .code yX1_hasNoPart cX1_hasNoPart 3 (some .boolean) :: ([.fieldLink RX1 15 "RegionNets$Regions" "sets" "[I"] ++ wsX10)
def wsX1_firstApart_r1 : List Cond := [Cond.fieldLink RX1 15 "RegionNets$Regions" "sets" "[I", Cond.methodLink RX1 40 yX1_count, Cond.instanceMethod yX1_count, Cond.selects RX1 yX1_count yX1_count, Cond.initialized RX1, Cond.code yX1_count cX1_count 1 (some .int), Cond.fieldLink RX1 29 "RegionNets$Regions" "known" "Z", Cond.fieldLink RX1 36 "RegionNets$Regions" "count" "I", Cond.methodLink RX1 33 yX1_search, Cond.instanceMethod yX1_search, Cond.selects RX1 yX1_search yX1_search, Cond.code yX1_search cX1_search 3 none, Cond.fieldLink RX1 9 "RegionNets$Regions" "steps" "LRegionNets$Steps;", Cond.methodLink RX1 19 yX2_all, Cond.instanceMethod yX2_all, Cond.selects RX2 yX2_all yX2_all, Cond.initialized RX2, Cond.code yX2_all cX2_all 1 (some .int), Cond.fieldLink RX2 9 "RegionNets$Steps" "states" "I", Cond.methodLink RX1 25 yX2_firstMixed, Cond.instanceMethod yX2_firstMixed, Cond.selects RX2 yX2_firstMixed yX2_firstMixed, Cond.code yX2_firstMixed cX2_firstMixed 3 (some .int), Cond.methodLink RX2 49 yX2_way]
def wsX1_firstApart_r2 : List Cond := [Cond.instanceMethod yX2_way, Cond.selects RX2 yX2_way yX2_way, Cond.code yX2_way cX2_way 6 (some .int), Cond.fieldLink RX2 20 "RegionNets$Steps" "begins" "[I", Cond.methodLink RX2 46 yX2_sourcesOf, Cond.instanceMethod yX2_sourcesOf, Cond.selects RX2 yX2_sourcesOf yX2_sourcesOf, Cond.code yX2_sourcesOf cX2_sourcesOf 3 (some .int), Cond.fieldLink RX2 24 "RegionNets$Steps" "lowSources" "[[I", Cond.fieldLink RX2 27 "RegionNets$Steps" "highSources" "[[I", Cond.static yX3_has, Cond.initialized RX3, Cond.code yX3_has cX3_has 2 (some .boolean)]
def wsX1_firstApart : List Cond := .code yX1_firstApart cX1_firstApart 5 (some .int) :: ((wsX1_firstApart_r1 ++ wsX1_firstApart_r2) ++ wsX10 ++ wsX20)
def wsX1_prevents : List Cond := .code yX1_prevents cX1_prevents 5 (some .boolean) :: ([.fieldLink RX1 9 "RegionNets$Regions" "steps" "LRegionNets$Steps;", .methodLink RX1 50 yX2_way, .instanceMethod yX2_way, .selects RX2 yX2_way yX2_way, .initialized RX2, .code yX2_way cX2_way 6 (some .int), .fieldLink RX2 20 "RegionNets$Steps" "begins" "[I", .methodLink RX2 46 yX2_sourcesOf, .instanceMethod yX2_sourcesOf, .selects RX2 yX2_sourcesOf yX2_sourcesOf, .code yX2_sourcesOf cX2_sourcesOf 3 (some .int), .fieldLink RX2 24 "RegionNets$Steps" "lowSources" "[[I", .fieldLink RX2 27 "RegionNets$Steps" "highSources" "[[I", .static yX3_has, .initialized RX3, .code yX3_has cX3_has 2 (some .boolean)] ++ wsX10 ++ wsX20)
def wsX1_firstPreventing_r1 : List Cond := [Cond.fieldLink RX1 15 "RegionNets$Regions" "sets" "[I", Cond.methodLink RX1 40 yX1_count, Cond.instanceMethod yX1_count, Cond.selects RX1 yX1_count yX1_count, Cond.initialized RX1, Cond.code yX1_count cX1_count 1 (some .int), Cond.fieldLink RX1 29 "RegionNets$Regions" "known" "Z", Cond.fieldLink RX1 36 "RegionNets$Regions" "count" "I", Cond.methodLink RX1 33 yX1_search, Cond.instanceMethod yX1_search, Cond.selects RX1 yX1_search yX1_search, Cond.code yX1_search cX1_search 3 none, Cond.fieldLink RX1 9 "RegionNets$Regions" "steps" "LRegionNets$Steps;", Cond.methodLink RX1 19 yX2_all, Cond.instanceMethod yX2_all, Cond.selects RX2 yX2_all yX2_all, Cond.initialized RX2, Cond.code yX2_all cX2_all 1 (some .int), Cond.fieldLink RX2 9 "RegionNets$Steps" "states" "I", Cond.methodLink RX1 25 yX2_firstMixed, Cond.instanceMethod yX2_firstMixed, Cond.selects RX2 yX2_firstMixed yX2_firstMixed, Cond.code yX2_firstMixed cX2_firstMixed 3 (some .int), Cond.methodLink RX2 49 yX2_way]
def wsX1_firstPreventing_r2 : List Cond := [Cond.instanceMethod yX2_way, Cond.selects RX2 yX2_way yX2_way, Cond.code yX2_way cX2_way 6 (some .int), Cond.fieldLink RX2 20 "RegionNets$Steps" "begins" "[I", Cond.methodLink RX2 46 yX2_sourcesOf, Cond.instanceMethod yX2_sourcesOf, Cond.selects RX2 yX2_sourcesOf yX2_sourcesOf, Cond.code yX2_sourcesOf cX2_sourcesOf 3 (some .int), Cond.fieldLink RX2 24 "RegionNets$Steps" "lowSources" "[[I", Cond.fieldLink RX2 27 "RegionNets$Steps" "highSources" "[[I", Cond.methodLink RX1 46 yX1_prevents, Cond.instanceMethod yX1_prevents, Cond.selects RX1 yX1_prevents yX1_prevents, Cond.code yX1_prevents cX1_prevents 5 (some .boolean), Cond.methodLink RX1 50 yX2_way, Cond.static yX3_has, Cond.initialized RX3, Cond.code yX3_has cX3_has 2 (some .boolean)]
def wsX1_firstPreventing : List Cond := .code yX1_firstPreventing cX1_firstPreventing 5 (some .int) :: ((wsX1_firstPreventing_r1 ++ wsX1_firstPreventing_r2) ++ wsX10 ++ wsX20)
def wsX1_pairsNotApart_r1 : List Cond := [Cond.fieldLink RX1 9 "RegionNets$Regions" "steps" "LRegionNets$Steps;", Cond.methodLink RX1 57 yX1_firstApart, Cond.instanceMethod yX1_firstApart, Cond.selects RX1 yX1_firstApart yX1_firstApart, Cond.initialized RX1, Cond.code yX1_firstApart cX1_firstApart 5 (some .int), Cond.fieldLink RX1 15 "RegionNets$Regions" "sets" "[I", Cond.methodLink RX1 40 yX1_count, Cond.instanceMethod yX1_count, Cond.selects RX1 yX1_count yX1_count, Cond.code yX1_count cX1_count 1 (some .int), Cond.fieldLink RX1 29 "RegionNets$Regions" "known" "Z", Cond.fieldLink RX1 36 "RegionNets$Regions" "count" "I", Cond.methodLink RX1 33 yX1_search, Cond.instanceMethod yX1_search, Cond.selects RX1 yX1_search yX1_search, Cond.code yX1_search cX1_search 3 none, Cond.methodLink RX1 19 yX2_all, Cond.instanceMethod yX2_all, Cond.selects RX2 yX2_all yX2_all, Cond.initialized RX2, Cond.code yX2_all cX2_all 1 (some .int), Cond.fieldLink RX2 9 "RegionNets$Steps" "states" "I", Cond.methodLink RX1 25 yX2_firstMixed]
def wsX1_pairsNotApart_r2 : List Cond := [Cond.instanceMethod yX2_firstMixed, Cond.selects RX2 yX2_firstMixed yX2_firstMixed, Cond.code yX2_firstMixed cX2_firstMixed 3 (some .int), Cond.methodLink RX2 49 yX2_way, Cond.instanceMethod yX2_way, Cond.selects RX2 yX2_way yX2_way, Cond.code yX2_way cX2_way 6 (some .int), Cond.fieldLink RX2 20 "RegionNets$Steps" "begins" "[I", Cond.methodLink RX2 46 yX2_sourcesOf, Cond.instanceMethod yX2_sourcesOf, Cond.selects RX2 yX2_sourcesOf yX2_sourcesOf, Cond.code yX2_sourcesOf cX2_sourcesOf 3 (some .int), Cond.fieldLink RX2 24 "RegionNets$Steps" "lowSources" "[[I", Cond.fieldLink RX2 27 "RegionNets$Steps" "highSources" "[[I", Cond.static yX3_has, Cond.initialized RX3, Cond.code yX3_has cX3_has 2 (some .boolean)]
def wsX1_pairsNotApart : List Cond := .code yX1_pairsNotApart cX1_pairsNotApart 4 (some .int) :: ((wsX1_pairsNotApart_r1 ++ wsX1_pairsNotApart_r2) ++ wsX10 ++ wsX20)
def wsX2_stopsOf : List Cond := .code yX2_stopsOf cX2_stopsOf 2 (some .int) :: ([.fieldLink RX2 20 "RegionNets$Steps" "begins" "[I", .methodLink RX2 69 yX2_all, .instanceMethod yX2_all, .selects RX2 yX2_all yX2_all, .initialized RX2, .code yX2_all cX2_all 1 (some .int), .fieldLink RX2 9 "RegionNets$Steps" "states" "I"] ++ wsX20)
def wsX1_preventedIn_r1 : List Cond := [Cond.fieldLink RX1 9 "RegionNets$Regions" "steps" "LRegionNets$Steps;", Cond.fieldLink RX1 15 "RegionNets$Regions" "sets" "[I", Cond.methodLink RX1 40 yX1_count, Cond.instanceMethod yX1_count, Cond.selects RX1 yX1_count yX1_count, Cond.initialized RX1, Cond.code yX1_count cX1_count 1 (some .int), Cond.fieldLink RX1 29 "RegionNets$Regions" "known" "Z", Cond.fieldLink RX1 36 "RegionNets$Regions" "count" "I", Cond.methodLink RX1 33 yX1_search, Cond.instanceMethod yX1_search, Cond.selects RX1 yX1_search yX1_search, Cond.code yX1_search cX1_search 3 none, Cond.methodLink RX1 19 yX2_all, Cond.instanceMethod yX2_all, Cond.selects RX2 yX2_all yX2_all, Cond.initialized RX2, Cond.code yX2_all cX2_all 1 (some .int), Cond.fieldLink RX2 9 "RegionNets$Steps" "states" "I", Cond.methodLink RX1 25 yX2_firstMixed, Cond.instanceMethod yX2_firstMixed, Cond.selects RX2 yX2_firstMixed yX2_firstMixed, Cond.code yX2_firstMixed cX2_firstMixed 3 (some .int), Cond.methodLink RX2 49 yX2_way]
def wsX1_preventedIn_r2 : List Cond := [Cond.instanceMethod yX2_way, Cond.selects RX2 yX2_way yX2_way, Cond.code yX2_way cX2_way 6 (some .int), Cond.fieldLink RX2 20 "RegionNets$Steps" "begins" "[I", Cond.methodLink RX2 46 yX2_sourcesOf, Cond.instanceMethod yX2_sourcesOf, Cond.selects RX2 yX2_sourcesOf yX2_sourcesOf, Cond.code yX2_sourcesOf cX2_sourcesOf 3 (some .int), Cond.fieldLink RX2 24 "RegionNets$Steps" "lowSources" "[[I", Cond.fieldLink RX2 27 "RegionNets$Steps" "highSources" "[[I", Cond.methodLink RX1 50 yX2_way]
def wsX1_preventedIn : List Cond := .code yX1_preventedIn cX1_preventedIn 6 (some .int) :: ((wsX1_preventedIn_r1 ++ wsX1_preventedIn_r2) ++ wsX10 ++ wsX20)
def wsJ6_bitCount_0f7a4 : List Cond := .code yJ6_bitCount_0f7a4 cJ6_bitCount_0f7a4 1 (some .int) :: ([.constant RJ6 265 (1431655765), .constant RJ6 266 (858993459), .constant RJ6 267 (252645135)])
def wsX1_pairsNotPrevented_r1 : List Cond := [Cond.fieldLink RX1 9 "RegionNets$Regions" "steps" "LRegionNets$Steps;", Cond.methodLink RX1 60 yX2_stopsOf, Cond.instanceMethod yX2_stopsOf, Cond.selects RX2 yX2_stopsOf yX2_stopsOf, Cond.initialized RX2, Cond.code yX2_stopsOf cX2_stopsOf 2 (some .int), Cond.fieldLink RX2 20 "RegionNets$Steps" "begins" "[I", Cond.methodLink RX2 69 yX2_all, Cond.instanceMethod yX2_all, Cond.selects RX2 yX2_all yX2_all, Cond.code yX2_all cX2_all 1 (some .int), Cond.fieldLink RX2 9 "RegionNets$Steps" "states" "I", Cond.methodLink RX1 63 yX1_preventedIn, Cond.instanceMethod yX1_preventedIn, Cond.selects RX1 yX1_preventedIn yX1_preventedIn, Cond.initialized RX1, Cond.code yX1_preventedIn cX1_preventedIn 6 (some .int), Cond.fieldLink RX1 15 "RegionNets$Regions" "sets" "[I", Cond.methodLink RX1 40 yX1_count, Cond.instanceMethod yX1_count, Cond.selects RX1 yX1_count yX1_count, Cond.code yX1_count cX1_count 1 (some .int), Cond.fieldLink RX1 29 "RegionNets$Regions" "known" "Z", Cond.fieldLink RX1 36 "RegionNets$Regions" "count" "I"]
def wsX1_pairsNotPrevented_r2 : List Cond := [Cond.methodLink RX1 33 yX1_search, Cond.instanceMethod yX1_search, Cond.selects RX1 yX1_search yX1_search, Cond.code yX1_search cX1_search 3 none, Cond.methodLink RX1 19 yX2_all, Cond.methodLink RX1 25 yX2_firstMixed, Cond.instanceMethod yX2_firstMixed, Cond.selects RX2 yX2_firstMixed yX2_firstMixed, Cond.code yX2_firstMixed cX2_firstMixed 3 (some .int), Cond.methodLink RX2 49 yX2_way, Cond.instanceMethod yX2_way, Cond.selects RX2 yX2_way yX2_way, Cond.code yX2_way cX2_way 6 (some .int), Cond.methodLink RX2 46 yX2_sourcesOf, Cond.instanceMethod yX2_sourcesOf, Cond.selects RX2 yX2_sourcesOf yX2_sourcesOf, Cond.code yX2_sourcesOf cX2_sourcesOf 3 (some .int), Cond.fieldLink RX2 24 "RegionNets$Steps" "lowSources" "[[I", Cond.fieldLink RX2 27 "RegionNets$Steps" "highSources" "[[I", Cond.methodLink RX1 50 yX2_way, Cond.methodLink RX1 66 yJ6_bitCount_0f7a4, Cond.static yJ6_bitCount_0f7a4, Cond.initialized RJ6, Cond.code yJ6_bitCount_0f7a4 cJ6_bitCount_0f7a4 1 (some .int)]
def wsX1_pairsNotPrevented_r3 : List Cond := [Cond.constant RJ6 265 (1431655765), Cond.constant RJ6 266 (858993459), Cond.constant RJ6 267 (252645135)]
def wsX1_pairsNotPrevented : List Cond := .code yX1_pairsNotPrevented cX1_pairsNotPrevented 3 (some .int) :: ((wsX1_pairsNotPrevented_r1 ++ (wsX1_pairsNotPrevented_r2 ++ wsX1_pairsNotPrevented_r3)) ++ wsX10 ++ wsX20)
def wsX2_init : List Cond := .code yX2_init cX2_init 3 none :: ([.methodLink RX2 3 objectInit, .instanceMethod objectInit, .code objectInit ⟨#[0xb1]⟩ 1 none, .fieldLink RX2 9 "RegionNets$Steps" "states" "I", .classLink RX2 15 "[[I", .arrayClass .int, .fieldLink RX2 17 "RegionNets$Steps" "ends" "[[I", .fieldLink RX2 20 "RegionNets$Steps" "begins" "[I", .fieldLink RX2 24 "RegionNets$Steps" "lowSources" "[[I", .fieldLink RX2 27 "RegionNets$Steps" "highSources" "[[I"] ++ wsX20)
def wsX2_setEnd : List Cond := .code yX2_setEnd cX2_setEnd 5 none :: ([.fieldLink RX2 17 "RegionNets$Steps" "ends" "[[I", .fieldLink RX2 20 "RegionNets$Steps" "begins" "[I"] ++ wsX20)
def wsX2_beginsOfStepsTo : List Cond := .code yX2_beginsOfStepsTo cX2_beginsOfStepsTo 5 (some .int) :: ([.fieldLink RX2 9 "RegionNets$Steps" "states" "I", .fieldLink RX2 17 "RegionNets$Steps" "ends" "[[I"] ++ wsX20)
def wsX2_learnHalf : List Cond := .code yX2_learnHalf cX2_learnHalf 8 none :: ([.methodLink RX2 42 yX2_beginsOfStepsTo, .instanceMethod yX2_beginsOfStepsTo, .selects RX2 yX2_beginsOfStepsTo yX2_beginsOfStepsTo, .initialized RX2, .code yX2_beginsOfStepsTo cX2_beginsOfStepsTo 5 (some .int), .fieldLink RX2 9 "RegionNets$Steps" "states" "I", .fieldLink RX2 17 "RegionNets$Steps" "ends" "[[I"] ++ wsX20)
def wsX2_learnSources : List Cond := .code yX2_learnSources cX2_learnSources 2 none :: ([.fieldLink RX2 24 "RegionNets$Steps" "lowSources" "[[I", .fieldLink RX2 27 "RegionNets$Steps" "highSources" "[[I", .methodLink RX2 38 yX2_learnHalf, .instanceMethod yX2_learnHalf, .selects RX2 yX2_learnHalf yX2_learnHalf, .initialized RX2, .code yX2_learnHalf cX2_learnHalf 8 none, .methodLink RX2 42 yX2_beginsOfStepsTo, .instanceMethod yX2_beginsOfStepsTo, .selects RX2 yX2_beginsOfStepsTo yX2_beginsOfStepsTo, .code yX2_beginsOfStepsTo cX2_beginsOfStepsTo 5 (some .int), .fieldLink RX2 9 "RegionNets$Steps" "states" "I", .fieldLink RX2 17 "RegionNets$Steps" "ends" "[[I"] ++ wsX20)
def wsX2_put : List Cond := .code yX2_put cX2_put 4 none :: ([.methodLink RX2 30 yX2_setEnd, .instanceMethod yX2_setEnd, .selects RX2 yX2_setEnd yX2_setEnd, .initialized RX2, .code yX2_setEnd cX2_setEnd 5 none, .fieldLink RX2 17 "RegionNets$Steps" "ends" "[[I", .fieldLink RX2 20 "RegionNets$Steps" "begins" "[I", .methodLink RX2 34 yX2_learnSources, .instanceMethod yX2_learnSources, .selects RX2 yX2_learnSources yX2_learnSources, .code yX2_learnSources cX2_learnSources 2 none, .fieldLink RX2 24 "RegionNets$Steps" "lowSources" "[[I", .fieldLink RX2 27 "RegionNets$Steps" "highSources" "[[I", .methodLink RX2 38 yX2_learnHalf, .instanceMethod yX2_learnHalf, .selects RX2 yX2_learnHalf yX2_learnHalf, .code yX2_learnHalf cX2_learnHalf 8 none, .methodLink RX2 42 yX2_beginsOfStepsTo, .instanceMethod yX2_beginsOfStepsTo, .selects RX2 yX2_beginsOfStepsTo yX2_beginsOfStepsTo, .code yX2_beginsOfStepsTo cX2_beginsOfStepsTo 5 (some .int), .fieldLink RX2 9 "RegionNets$Steps" "states" "I"] ++ wsX20)
def wsX2_move : List Cond := .code yX2_move cX2_move 5 none :: ([.fieldLink RX2 9 "RegionNets$Steps" "states" "I", .fieldLink RX2 17 "RegionNets$Steps" "ends" "[[I", .methodLink RX2 30 yX2_setEnd, .instanceMethod yX2_setEnd, .selects RX2 yX2_setEnd yX2_setEnd, .initialized RX2, .code yX2_setEnd cX2_setEnd 5 none, .fieldLink RX2 20 "RegionNets$Steps" "begins" "[I", .methodLink RX2 34 yX2_learnSources, .instanceMethod yX2_learnSources, .selects RX2 yX2_learnSources yX2_learnSources, .code yX2_learnSources cX2_learnSources 2 none, .fieldLink RX2 24 "RegionNets$Steps" "lowSources" "[[I", .fieldLink RX2 27 "RegionNets$Steps" "highSources" "[[I", .methodLink RX2 38 yX2_learnHalf, .instanceMethod yX2_learnHalf, .selects RX2 yX2_learnHalf yX2_learnHalf, .code yX2_learnHalf cX2_learnHalf 8 none, .methodLink RX2 42 yX2_beginsOfStepsTo, .instanceMethod yX2_beginsOfStepsTo, .selects RX2 yX2_beginsOfStepsTo yX2_beginsOfStepsTo, .code yX2_beginsOfStepsTo cX2_beginsOfStepsTo 5 (some .int)] ++ wsX20)
def wsX2_endsOf : List Cond := .code yX2_endsOf cX2_endsOf 5 (some .int) :: ([.fieldLink RX2 9 "RegionNets$Steps" "states" "I", .fieldLink RX2 17 "RegionNets$Steps" "ends" "[[I"] ++ wsX20)
def wsX2_growth : List Cond := .code yX2_growth cX2_growth 6 (some .int) :: ([.fieldLink RX2 20 "RegionNets$Steps" "begins" "[I", .methodLink RX2 46 yX2_sourcesOf, .instanceMethod yX2_sourcesOf, .selects RX2 yX2_sourcesOf yX2_sourcesOf, .initialized RX2, .code yX2_sourcesOf cX2_sourcesOf 3 (some .int), .fieldLink RX2 24 "RegionNets$Steps" "lowSources" "[[I", .fieldLink RX2 27 "RegionNets$Steps" "highSources" "[[I", .methodLink RX2 59 yX2_endsOf, .instanceMethod yX2_endsOf, .selects RX2 yX2_endsOf yX2_endsOf, .code yX2_endsOf cX2_endsOf 5 (some .int), .fieldLink RX2 9 "RegionNets$Steps" "states" "I", .fieldLink RX2 17 "RegionNets$Steps" "ends" "[[I"] ++ wsX20)
def wsX2_grown_r1 : List Cond := [Cond.methodLink RX2 52 yX2_firstMixed, Cond.instanceMethod yX2_firstMixed, Cond.selects RX2 yX2_firstMixed yX2_firstMixed, Cond.initialized RX2, Cond.code yX2_firstMixed cX2_firstMixed 3 (some .int), Cond.methodLink RX2 49 yX2_way, Cond.instanceMethod yX2_way, Cond.selects RX2 yX2_way yX2_way, Cond.code yX2_way cX2_way 6 (some .int), Cond.fieldLink RX2 20 "RegionNets$Steps" "begins" "[I", Cond.methodLink RX2 46 yX2_sourcesOf, Cond.instanceMethod yX2_sourcesOf, Cond.selects RX2 yX2_sourcesOf yX2_sourcesOf, Cond.code yX2_sourcesOf cX2_sourcesOf 3 (some .int), Cond.fieldLink RX2 24 "RegionNets$Steps" "lowSources" "[[I", Cond.fieldLink RX2 27 "RegionNets$Steps" "highSources" "[[I", Cond.methodLink RX2 56 yX2_growth, Cond.instanceMethod yX2_growth, Cond.selects RX2 yX2_growth yX2_growth, Cond.code yX2_growth cX2_growth 6 (some .int), Cond.methodLink RX2 59 yX2_endsOf, Cond.instanceMethod yX2_endsOf, Cond.selects RX2 yX2_endsOf yX2_endsOf, Cond.code yX2_endsOf cX2_endsOf 5 (some .int)]
def wsX2_grown_r2 : List Cond := [Cond.fieldLink RX2 9 "RegionNets$Steps" "states" "I", Cond.fieldLink RX2 17 "RegionNets$Steps" "ends" "[[I"]
def wsX2_grown : List Cond := .code yX2_grown cX2_grown 5 (some .int) :: ((wsX2_grown_r1 ++ wsX2_grown_r2) ++ wsX20)
def wsX2_distanceTo : List Cond := .code yX2_distanceTo cX2_distanceTo 4 (some .int) :: ([.fieldLink RX2 9 "RegionNets$Steps" "states" "I", .static yX3_has, .initialized RX3, .code yX3_has cX3_has 2 (some .boolean), .methodLink RX2 62 yX2_nextStates, .instanceMethod yX2_nextStates, .selects RX2 yX2_nextStates yX2_nextStates, .initialized RX2, .code yX2_nextStates cX2_nextStates 6 (some .int), .fieldLink RX2 17 "RegionNets$Steps" "ends" "[[I"] ++ wsX20)
def wsX2_statePairs : List Cond := .code yX2_statePairs cX2_statePairs 1 (some .int) :: ([.fieldLink RX2 9 "RegionNets$Steps" "states" "I"] ++ wsX20)
def wsX2_stopPairs : List Cond := .code yX2_stopPairs cX2_stopPairs 3 (some .int) :: ([.methodLink RX2 73 yX2_stopsOf, .instanceMethod yX2_stopsOf, .selects RX2 yX2_stopsOf yX2_stopsOf, .initialized RX2, .code yX2_stopsOf cX2_stopsOf 2 (some .int), .fieldLink RX2 20 "RegionNets$Steps" "begins" "[I", .methodLink RX2 69 yX2_all, .instanceMethod yX2_all, .selects RX2 yX2_all yX2_all, .code yX2_all cX2_all 1 (some .int), .fieldLink RX2 9 "RegionNets$Steps" "states" "I", .methodLink RX2 76 yJ6_bitCount_0f7a4, .static yJ6_bitCount_0f7a4, .initialized RJ6, .code yJ6_bitCount_0f7a4 cJ6_bitCount_0f7a4 1 (some .int), .constant RJ6 265 (1431655765), .constant RJ6 266 (858993459), .constant RJ6 267 (252645135)] ++ wsX20)
def wsX3_init_r1 : List Cond := [Cond.methodLink RX3 1 objectInit, Cond.instanceMethod objectInit, Cond.code objectInit ⟨#[0xb1]⟩ 1 none, Cond.classLink RX3 7 RX2, Cond.instantiable RX2 5, Cond.initialized RX2, Cond.fieldLink RX3 10 "RegionNets" "steps" "LRegionNets$Steps;", Cond.classLink RX3 16 RX1, Cond.instantiable RX1 4, Cond.initialized RX1, Cond.fieldLink RX3 21 "RegionNets" "regions" "LRegionNets$Regions;", Cond.classLink RX3 25 RX0, Cond.instantiable RX0 11, Cond.initialized RX0, Cond.fieldLink RX3 30 "RegionNets" "net" "LRegionNets$Net;", Cond.methodLink RX3 9 yX2_init, Cond.instanceMethod yX2_init, Cond.code yX2_init cX2_init 3 none, Cond.methodLink RX2 3 objectInit, Cond.fieldLink RX2 9 "RegionNets$Steps" "states" "I", Cond.classLink RX2 15 "[[I", Cond.arrayClass .int, Cond.fieldLink RX2 17 "RegionNets$Steps" "ends" "[[I", Cond.fieldLink RX2 20 "RegionNets$Steps" "begins" "[I"]
def wsX3_init_r2 : List Cond := [Cond.fieldLink RX2 24 "RegionNets$Steps" "lowSources" "[[I", Cond.fieldLink RX2 27 "RegionNets$Steps" "highSources" "[[I", Cond.methodLink RX3 18 yX1_init, Cond.instanceMethod yX1_init, Cond.code yX1_init cX1_init 2 none, Cond.methodLink RX1 3 objectInit, Cond.fieldLink RX1 9 "RegionNets$Regions" "steps" "LRegionNets$Steps;", Cond.fieldLink RX1 15 "RegionNets$Regions" "sets" "[I", Cond.methodLink RX3 27 yX0_init, Cond.instanceMethod yX0_init, Cond.code yX0_init cX0_init 3 none, Cond.methodLink RX0 3 objectInit, Cond.fieldLink RX0 9 "RegionNets$Net" "steps" "LRegionNets$Steps;", Cond.fieldLink RX0 15 "RegionNets$Net" "regions" "LRegionNets$Regions;", Cond.fieldLink RX0 19 "RegionNets$Net" "placeSets" "[I", Cond.fieldLink RX0 23 "RegionNets$Net" "takes" "[I", Cond.fieldLink RX0 26 "RegionNets$Net" "gives" "[I", Cond.fieldLink RX0 29 "RegionNets$Net" "markings" "[I"]
def wsX3_init : List Cond := .code yX3_init cX3_init 1 none :: ((wsX3_init_r1 ++ wsX3_init_r2) ++ wsX20 ++ wsX30 ++ wsX10 ++ wsX00)
def wsX3_changed : List Cond := .code yX3_changed cX3_changed 1 none :: ([.fieldLink RX3 21 "RegionNets" "regions" "LRegionNets$Regions;", .fieldLink RX3 30 "RegionNets" "net" "LRegionNets$Net;"] ++ wsX30 ++ wsX10 ++ wsX00)
def wsX3_addState : List Cond := .code yX3_addState cX3_addState 2 (some .int) :: ([.classLink RX3 38 "java/lang/IllegalStateException", .initialized "java/lang/IllegalStateException", .fieldLink RX3 10 "RegionNets" "steps" "LRegionNets$Steps;", .methodLink RX3 45 yX3_changed, .instanceMethod yX3_changed, .selects RX3 yX3_changed yX3_changed, .initialized RX3, .code yX3_changed cX3_changed 1 none, .fieldLink RX3 21 "RegionNets" "regions" "LRegionNets$Regions;", .fieldLink RX3 30 "RegionNets" "net" "LRegionNets$Net;"] ++ wsX30 ++ wsX20 ++ wsX10 ++ wsX00 ++ (vx_atS RX3 42 "java/lang/IllegalStateException" ["java/lang/RuntimeException", "java/lang/Exception"]).filter goodWord)
def wsX3_needState : List Cond := .code yX3_needState cX3_needState 2 none :: ([.classLink RX3 147 "java/lang/IndexOutOfBoundsException", .initialized "java/lang/IndexOutOfBoundsException", .fieldLink RX3 10 "RegionNets" "steps" "LRegionNets$Steps;"] ++ wsX30 ++ wsX20 ++ (vx_atS RX3 151 "java/lang/IndexOutOfBoundsException" ["java/lang/RuntimeException", "java/lang/Exception"]).filter goodWord)
def wsX3_needLabel : List Cond := .code yX3_needLabel cX3_needLabel 1 none :: ([.classLink RX3 147 "java/lang/IndexOutOfBoundsException", .initialized "java/lang/IndexOutOfBoundsException"] ++ (vx_atS RX3 151 "java/lang/IndexOutOfBoundsException" ["java/lang/RuntimeException", "java/lang/Exception"]).filter goodWord)
def wsX3_step_r1 : List Cond := [Cond.fieldLink RX3 10 "RegionNets" "steps" "LRegionNets$Steps;", Cond.methodLink RX3 48 yX3_needState, Cond.instanceMethod yX3_needState, Cond.selects RX3 yX3_needState yX3_needState, Cond.initialized RX3, Cond.code yX3_needState cX3_needState 2 none, Cond.classLink RX3 147 "java/lang/IndexOutOfBoundsException", Cond.initialized "java/lang/IndexOutOfBoundsException", Cond.methodLink RX3 52 yX3_needLabel, Cond.static yX3_needLabel, Cond.code yX3_needLabel cX3_needLabel 1 none, Cond.methodLink RX3 55 yX2_end, Cond.instanceMethod yX2_end, Cond.selects RX2 yX2_end yX2_end, Cond.initialized RX2, Cond.code yX2_end cX2_end 3 (some .int), Cond.fieldLink RX2 17 "RegionNets$Steps" "ends" "[[I", Cond.methodLink RX3 59 yX2_put, Cond.instanceMethod yX2_put, Cond.selects RX2 yX2_put yX2_put, Cond.code yX2_put cX2_put 4 none, Cond.methodLink RX2 30 yX2_setEnd, Cond.instanceMethod yX2_setEnd, Cond.selects RX2 yX2_setEnd yX2_setEnd]
def wsX3_step_r2 : List Cond := [Cond.code yX2_setEnd cX2_setEnd 5 none, Cond.fieldLink RX2 20 "RegionNets$Steps" "begins" "[I", Cond.methodLink RX2 34 yX2_learnSources, Cond.instanceMethod yX2_learnSources, Cond.selects RX2 yX2_learnSources yX2_learnSources, Cond.code yX2_learnSources cX2_learnSources 2 none, Cond.fieldLink RX2 24 "RegionNets$Steps" "lowSources" "[[I", Cond.fieldLink RX2 27 "RegionNets$Steps" "highSources" "[[I", Cond.methodLink RX2 38 yX2_learnHalf, Cond.instanceMethod yX2_learnHalf, Cond.selects RX2 yX2_learnHalf yX2_learnHalf, Cond.code yX2_learnHalf cX2_learnHalf 8 none, Cond.methodLink RX2 42 yX2_beginsOfStepsTo, Cond.instanceMethod yX2_beginsOfStepsTo, Cond.selects RX2 yX2_beginsOfStepsTo yX2_beginsOfStepsTo, Cond.code yX2_beginsOfStepsTo cX2_beginsOfStepsTo 5 (some .int), Cond.fieldLink RX2 9 "RegionNets$Steps" "states" "I", Cond.methodLink RX3 45 yX3_changed, Cond.instanceMethod yX3_changed, Cond.selects RX3 yX3_changed yX3_changed, Cond.code yX3_changed cX3_changed 1 none, Cond.fieldLink RX3 21 "RegionNets" "regions" "LRegionNets$Regions;", Cond.fieldLink RX3 30 "RegionNets" "net" "LRegionNets$Net;"]
def wsX3_step : List Cond := .code yX3_step cX3_step 5 (some .int) :: ((wsX3_step_r1 ++ wsX3_step_r2) ++ wsX30 ++ wsX20 ++ wsX10 ++ wsX00 ++ (vx_atS RX3 151 "java/lang/IndexOutOfBoundsException" ["java/lang/RuntimeException", "java/lang/Exception"]).filter goodWord)
def wsX3_unstep_r1 : List Cond := [Cond.fieldLink RX3 10 "RegionNets" "steps" "LRegionNets$Steps;", Cond.methodLink RX3 48 yX3_needState, Cond.instanceMethod yX3_needState, Cond.selects RX3 yX3_needState yX3_needState, Cond.initialized RX3, Cond.code yX3_needState cX3_needState 2 none, Cond.classLink RX3 147 "java/lang/IndexOutOfBoundsException", Cond.initialized "java/lang/IndexOutOfBoundsException", Cond.methodLink RX3 52 yX3_needLabel, Cond.static yX3_needLabel, Cond.code yX3_needLabel cX3_needLabel 1 none, Cond.methodLink RX3 55 yX2_end, Cond.instanceMethod yX2_end, Cond.selects RX2 yX2_end yX2_end, Cond.initialized RX2, Cond.code yX2_end cX2_end 3 (some .int), Cond.fieldLink RX2 17 "RegionNets$Steps" "ends" "[[I", Cond.methodLink RX3 59 yX2_put, Cond.instanceMethod yX2_put, Cond.selects RX2 yX2_put yX2_put, Cond.code yX2_put cX2_put 4 none, Cond.methodLink RX2 30 yX2_setEnd, Cond.instanceMethod yX2_setEnd, Cond.selects RX2 yX2_setEnd yX2_setEnd]
def wsX3_unstep_r2 : List Cond := [Cond.code yX2_setEnd cX2_setEnd 5 none, Cond.fieldLink RX2 20 "RegionNets$Steps" "begins" "[I", Cond.methodLink RX2 34 yX2_learnSources, Cond.instanceMethod yX2_learnSources, Cond.selects RX2 yX2_learnSources yX2_learnSources, Cond.code yX2_learnSources cX2_learnSources 2 none, Cond.fieldLink RX2 24 "RegionNets$Steps" "lowSources" "[[I", Cond.fieldLink RX2 27 "RegionNets$Steps" "highSources" "[[I", Cond.methodLink RX2 38 yX2_learnHalf, Cond.instanceMethod yX2_learnHalf, Cond.selects RX2 yX2_learnHalf yX2_learnHalf, Cond.code yX2_learnHalf cX2_learnHalf 8 none, Cond.methodLink RX2 42 yX2_beginsOfStepsTo, Cond.instanceMethod yX2_beginsOfStepsTo, Cond.selects RX2 yX2_beginsOfStepsTo yX2_beginsOfStepsTo, Cond.code yX2_beginsOfStepsTo cX2_beginsOfStepsTo 5 (some .int), Cond.fieldLink RX2 9 "RegionNets$Steps" "states" "I", Cond.methodLink RX3 45 yX3_changed, Cond.instanceMethod yX3_changed, Cond.selects RX3 yX3_changed yX3_changed, Cond.code yX3_changed cX3_changed 1 none, Cond.fieldLink RX3 21 "RegionNets" "regions" "LRegionNets$Regions;", Cond.fieldLink RX3 30 "RegionNets" "net" "LRegionNets$Net;"]
def wsX3_unstep : List Cond := .code yX3_unstep cX3_unstep 4 (some .boolean) :: ((wsX3_unstep_r1 ++ wsX3_unstep_r2) ++ wsX30 ++ wsX20 ++ wsX10 ++ wsX00 ++ (vx_atS RX3 151 "java/lang/IndexOutOfBoundsException" ["java/lang/RuntimeException", "java/lang/Exception"]).filter goodWord)
def wsX3_rename_r1 : List Cond := [Cond.classLink RX3 38 "java/lang/IllegalStateException", Cond.initialized "java/lang/IllegalStateException", Cond.fieldLink RX3 10 "RegionNets" "steps" "LRegionNets$Steps;", Cond.methodLink RX3 52 yX3_needLabel, Cond.static yX3_needLabel, Cond.initialized RX3, Cond.code yX3_needLabel cX3_needLabel 1 none, Cond.classLink RX3 147 "java/lang/IndexOutOfBoundsException", Cond.initialized "java/lang/IndexOutOfBoundsException", Cond.methodLink RX3 63 yX2_beginning, Cond.instanceMethod yX2_beginning, Cond.selects RX2 yX2_beginning yX2_beginning, Cond.initialized RX2, Cond.code yX2_beginning cX2_beginning 2 (some .int), Cond.fieldLink RX2 20 "RegionNets$Steps" "begins" "[I", Cond.methodLink RX3 69 yX2_move, Cond.instanceMethod yX2_move, Cond.selects RX2 yX2_move yX2_move, Cond.code yX2_move cX2_move 5 none, Cond.fieldLink RX2 9 "RegionNets$Steps" "states" "I", Cond.fieldLink RX2 17 "RegionNets$Steps" "ends" "[[I", Cond.methodLink RX2 30 yX2_setEnd, Cond.instanceMethod yX2_setEnd, Cond.selects RX2 yX2_setEnd yX2_setEnd]
def wsX3_rename_r2 : List Cond := [Cond.code yX2_setEnd cX2_setEnd 5 none, Cond.methodLink RX2 34 yX2_learnSources, Cond.instanceMethod yX2_learnSources, Cond.selects RX2 yX2_learnSources yX2_learnSources, Cond.code yX2_learnSources cX2_learnSources 2 none, Cond.fieldLink RX2 24 "RegionNets$Steps" "lowSources" "[[I", Cond.fieldLink RX2 27 "RegionNets$Steps" "highSources" "[[I", Cond.methodLink RX2 38 yX2_learnHalf, Cond.instanceMethod yX2_learnHalf, Cond.selects RX2 yX2_learnHalf yX2_learnHalf, Cond.code yX2_learnHalf cX2_learnHalf 8 none, Cond.methodLink RX2 42 yX2_beginsOfStepsTo, Cond.instanceMethod yX2_beginsOfStepsTo, Cond.selects RX2 yX2_beginsOfStepsTo yX2_beginsOfStepsTo, Cond.code yX2_beginsOfStepsTo cX2_beginsOfStepsTo 5 (some .int), Cond.methodLink RX3 45 yX3_changed, Cond.instanceMethod yX3_changed, Cond.selects RX3 yX3_changed yX3_changed, Cond.code yX3_changed cX3_changed 1 none, Cond.fieldLink RX3 21 "RegionNets" "regions" "LRegionNets$Regions;", Cond.fieldLink RX3 30 "RegionNets" "net" "LRegionNets$Net;", Cond.methodLink RX3 73 yJ6_bitCount_0f7a4, Cond.static yJ6_bitCount_0f7a4, Cond.initialized RJ6]
def wsX3_rename_r3 : List Cond := [Cond.code yJ6_bitCount_0f7a4 cJ6_bitCount_0f7a4 1 (some .int), Cond.constant RJ6 265 (1431655765), Cond.constant RJ6 266 (858993459), Cond.constant RJ6 267 (252645135)]
def wsX3_rename : List Cond := .code yX3_rename cX3_rename 4 (some .int) :: ((wsX3_rename_r1 ++ (wsX3_rename_r2 ++ wsX3_rename_r3)) ++ wsX30 ++ wsX20 ++ wsX10 ++ wsX00 ++ (vx_atS RX3 42 "java/lang/IllegalStateException" ["java/lang/RuntimeException", "java/lang/Exception"]).filter goodWord ++ (vx_atS RX3 151 "java/lang/IndexOutOfBoundsException" ["java/lang/RuntimeException", "java/lang/Exception"]).filter goodWord)
def wsX3_stateCount : List Cond := .code yX3_stateCount cX3_stateCount 1 (some .int) :: ([.fieldLink RX3 10 "RegionNets" "steps" "LRegionNets$Steps;"] ++ wsX30 ++ wsX20)
def wsX3_target : List Cond := .code yX3_target cX3_target 3 (some .int) :: ([.fieldLink RX3 10 "RegionNets" "steps" "LRegionNets$Steps;", .methodLink RX3 48 yX3_needState, .instanceMethod yX3_needState, .selects RX3 yX3_needState yX3_needState, .initialized RX3, .code yX3_needState cX3_needState 2 none, .classLink RX3 147 "java/lang/IndexOutOfBoundsException", .initialized "java/lang/IndexOutOfBoundsException", .methodLink RX3 52 yX3_needLabel, .static yX3_needLabel, .code yX3_needLabel cX3_needLabel 1 none, .methodLink RX3 55 yX2_end, .instanceMethod yX2_end, .selects RX2 yX2_end yX2_end, .initialized RX2, .code yX2_end cX2_end 3 (some .int), .fieldLink RX2 17 "RegionNets$Steps" "ends" "[[I"] ++ wsX30 ++ wsX20 ++ (vx_atS RX3 151 "java/lang/IndexOutOfBoundsException" ["java/lang/RuntimeException", "java/lang/Exception"]).filter goodWord)
def wsX3_enabled : List Cond := .code yX3_enabled cX3_enabled 4 (some .int) :: ([.fieldLink RX3 10 "RegionNets" "steps" "LRegionNets$Steps;", .methodLink RX3 48 yX3_needState, .instanceMethod yX3_needState, .selects RX3 yX3_needState yX3_needState, .initialized RX3, .code yX3_needState cX3_needState 2 none, .classLink RX3 147 "java/lang/IndexOutOfBoundsException", .initialized "java/lang/IndexOutOfBoundsException", .methodLink RX3 55 yX2_end, .instanceMethod yX2_end, .selects RX2 yX2_end yX2_end, .initialized RX2, .code yX2_end cX2_end 3 (some .int), .fieldLink RX2 17 "RegionNets$Steps" "ends" "[[I"] ++ wsX30 ++ wsX20 ++ (vx_atS RX3 151 "java/lang/IndexOutOfBoundsException" ["java/lang/RuntimeException", "java/lang/Exception"]).filter goodWord)
def wsX3_reached : List Cond := .code yX3_reached cX3_reached 1 (some .int) :: ([.fieldLink RX3 10 "RegionNets" "steps" "LRegionNets$Steps;", .methodLink RX3 78 yX2_reachedStates, .instanceMethod yX2_reachedStates, .selects RX2 yX2_reachedStates yX2_reachedStates, .initialized RX2, .code yX2_reachedStates cX2_reachedStates 3 (some .int), .fieldLink RX2 9 "RegionNets$Steps" "states" "I", .methodLink RX2 62 yX2_nextStates, .instanceMethod yX2_nextStates, .selects RX2 yX2_nextStates yX2_nextStates, .code yX2_nextStates cX2_nextStates 6 (some .int), .fieldLink RX2 17 "RegionNets$Steps" "ends" "[[I", .static yX3_has, .initialized RX3, .code yX3_has cX3_has 2 (some .boolean)] ++ wsX30 ++ wsX20)
def wsX3_distance : List Cond := .code yX3_distance cX3_distance 2 (some .int) :: ([.fieldLink RX3 10 "RegionNets" "steps" "LRegionNets$Steps;", .methodLink RX3 48 yX3_needState, .instanceMethod yX3_needState, .selects RX3 yX3_needState yX3_needState, .initialized RX3, .code yX3_needState cX3_needState 2 none, .classLink RX3 147 "java/lang/IndexOutOfBoundsException", .initialized "java/lang/IndexOutOfBoundsException", .methodLink RX3 82 yX2_distanceTo, .instanceMethod yX2_distanceTo, .selects RX2 yX2_distanceTo yX2_distanceTo, .initialized RX2, .code yX2_distanceTo cX2_distanceTo 4 (some .int), .fieldLink RX2 9 "RegionNets$Steps" "states" "I", .static yX3_has, .code yX3_has cX3_has 2 (some .boolean), .methodLink RX2 62 yX2_nextStates, .instanceMethod yX2_nextStates, .selects RX2 yX2_nextStates yX2_nextStates, .code yX2_nextStates cX2_nextStates 6 (some .int), .fieldLink RX2 17 "RegionNets$Steps" "ends" "[[I"] ++ wsX30 ++ wsX20 ++ (vx_atS RX3 151 "java/lang/IndexOutOfBoundsException" ["java/lang/RuntimeException", "java/lang/Exception"]).filter goodWord)
def wsX3_needSet : List Cond := .code yX3_needSet cX3_needSet 2 none :: ([.classLink RX3 198 "java/lang/IllegalArgumentException", .initialized "java/lang/IllegalArgumentException", .fieldLink RX3 10 "RegionNets" "steps" "LRegionNets$Steps;", .methodLink RX3 195 yX2_all, .instanceMethod yX2_all, .selects RX2 yX2_all yX2_all, .initialized RX2, .code yX2_all cX2_all 1 (some .int), .fieldLink RX2 9 "RegionNets$Steps" "states" "I"] ++ wsX30 ++ wsX20 ++ (vx_atS RX3 202 "java/lang/IllegalArgumentException" ["java/lang/RuntimeException", "java/lang/Exception"]).filter goodWord)
def wsX3_crossing_r1 : List Cond := [Cond.fieldLink RX3 10 "RegionNets" "steps" "LRegionNets$Steps;", Cond.methodLink RX3 85 yX3_needSet, Cond.instanceMethod yX3_needSet, Cond.selects RX3 yX3_needSet yX3_needSet, Cond.initialized RX3, Cond.code yX3_needSet cX3_needSet 2 none, Cond.classLink RX3 198 "java/lang/IllegalArgumentException", Cond.initialized "java/lang/IllegalArgumentException", Cond.methodLink RX3 195 yX2_all, Cond.instanceMethod yX2_all, Cond.selects RX2 yX2_all yX2_all, Cond.initialized RX2, Cond.code yX2_all cX2_all 1 (some .int), Cond.fieldLink RX2 9 "RegionNets$Steps" "states" "I", Cond.methodLink RX3 52 yX3_needLabel, Cond.static yX3_needLabel, Cond.code yX3_needLabel cX3_needLabel 1 none, Cond.classLink RX3 147 "java/lang/IndexOutOfBoundsException", Cond.initialized "java/lang/IndexOutOfBoundsException", Cond.methodLink RX3 88 yX2_way, Cond.instanceMethod yX2_way, Cond.selects RX2 yX2_way yX2_way, Cond.code yX2_way cX2_way 6 (some .int), Cond.fieldLink RX2 20 "RegionNets$Steps" "begins" "[I"]
def wsX3_crossing_r2 : List Cond := [Cond.methodLink RX2 46 yX2_sourcesOf, Cond.instanceMethod yX2_sourcesOf, Cond.selects RX2 yX2_sourcesOf yX2_sourcesOf, Cond.code yX2_sourcesOf cX2_sourcesOf 3 (some .int), Cond.fieldLink RX2 24 "RegionNets$Steps" "lowSources" "[[I", Cond.fieldLink RX2 27 "RegionNets$Steps" "highSources" "[[I"]
def wsX3_crossing : List Cond := .code yX3_crossing cX3_crossing 3 (some .int) :: ((wsX3_crossing_r1 ++ wsX3_crossing_r2) ++ wsX30 ++ wsX20 ++ (vx_atS RX3 202 "java/lang/IllegalArgumentException" ["java/lang/RuntimeException", "java/lang/Exception"]).filter goodWord ++ (vx_atS RX3 151 "java/lang/IndexOutOfBoundsException" ["java/lang/RuntimeException", "java/lang/Exception"]).filter goodWord)
def wsX3_isRegion_r1 : List Cond := [Cond.fieldLink RX3 21 "RegionNets" "regions" "LRegionNets$Regions;", Cond.methodLink RX3 85 yX3_needSet, Cond.instanceMethod yX3_needSet, Cond.selects RX3 yX3_needSet yX3_needSet, Cond.initialized RX3, Cond.code yX3_needSet cX3_needSet 2 none, Cond.classLink RX3 198 "java/lang/IllegalArgumentException", Cond.initialized "java/lang/IllegalArgumentException", Cond.fieldLink RX3 10 "RegionNets" "steps" "LRegionNets$Steps;", Cond.methodLink RX3 195 yX2_all, Cond.instanceMethod yX2_all, Cond.selects RX2 yX2_all yX2_all, Cond.initialized RX2, Cond.code yX2_all cX2_all 1 (some .int), Cond.fieldLink RX2 9 "RegionNets$Steps" "states" "I", Cond.methodLink RX3 91 yX1_isOne, Cond.instanceMethod yX1_isOne, Cond.selects RX1 yX1_isOne yX1_isOne, Cond.initialized RX1, Cond.code yX1_isOne cX1_isOne 2 (some .boolean), Cond.fieldLink RX1 9 "RegionNets$Regions" "steps" "LRegionNets$Steps;", Cond.methodLink RX1 19 yX2_all, Cond.methodLink RX1 25 yX2_firstMixed, Cond.instanceMethod yX2_firstMixed]
def wsX3_isRegion_r2 : List Cond := [Cond.selects RX2 yX2_firstMixed yX2_firstMixed, Cond.code yX2_firstMixed cX2_firstMixed 3 (some .int), Cond.methodLink RX2 49 yX2_way, Cond.instanceMethod yX2_way, Cond.selects RX2 yX2_way yX2_way, Cond.code yX2_way cX2_way 6 (some .int), Cond.fieldLink RX2 20 "RegionNets$Steps" "begins" "[I", Cond.methodLink RX2 46 yX2_sourcesOf, Cond.instanceMethod yX2_sourcesOf, Cond.selects RX2 yX2_sourcesOf yX2_sourcesOf, Cond.code yX2_sourcesOf cX2_sourcesOf 3 (some .int), Cond.fieldLink RX2 24 "RegionNets$Steps" "lowSources" "[[I", Cond.fieldLink RX2 27 "RegionNets$Steps" "highSources" "[[I"]
def wsX3_isRegion : List Cond := .code yX3_isRegion cX3_isRegion 2 (some .boolean) :: ((wsX3_isRegion_r1 ++ wsX3_isRegion_r2) ++ wsX30 ++ wsX20 ++ wsX10 ++ (vx_atS RX3 202 "java/lang/IllegalArgumentException" ["java/lang/RuntimeException", "java/lang/Exception"]).filter goodWord)
def wsX3_regionCount_r1 : List Cond := [Cond.fieldLink RX3 21 "RegionNets" "regions" "LRegionNets$Regions;", Cond.methodLink RX3 95 yX1_count, Cond.instanceMethod yX1_count, Cond.selects RX1 yX1_count yX1_count, Cond.initialized RX1, Cond.code yX1_count cX1_count 1 (some .int), Cond.fieldLink RX1 29 "RegionNets$Regions" "known" "Z", Cond.fieldLink RX1 36 "RegionNets$Regions" "count" "I", Cond.methodLink RX1 33 yX1_search, Cond.instanceMethod yX1_search, Cond.selects RX1 yX1_search yX1_search, Cond.code yX1_search cX1_search 3 none, Cond.fieldLink RX1 9 "RegionNets$Regions" "steps" "LRegionNets$Steps;", Cond.fieldLink RX1 15 "RegionNets$Regions" "sets" "[I", Cond.methodLink RX1 19 yX2_all, Cond.instanceMethod yX2_all, Cond.selects RX2 yX2_all yX2_all, Cond.initialized RX2, Cond.code yX2_all cX2_all 1 (some .int), Cond.fieldLink RX2 9 "RegionNets$Steps" "states" "I", Cond.methodLink RX1 25 yX2_firstMixed, Cond.instanceMethod yX2_firstMixed, Cond.selects RX2 yX2_firstMixed yX2_firstMixed, Cond.code yX2_firstMixed cX2_firstMixed 3 (some .int)]
def wsX3_regionCount_r2 : List Cond := [Cond.methodLink RX2 49 yX2_way, Cond.instanceMethod yX2_way, Cond.selects RX2 yX2_way yX2_way, Cond.code yX2_way cX2_way 6 (some .int), Cond.fieldLink RX2 20 "RegionNets$Steps" "begins" "[I", Cond.methodLink RX2 46 yX2_sourcesOf, Cond.instanceMethod yX2_sourcesOf, Cond.selects RX2 yX2_sourcesOf yX2_sourcesOf, Cond.code yX2_sourcesOf cX2_sourcesOf 3 (some .int), Cond.fieldLink RX2 24 "RegionNets$Steps" "lowSources" "[[I", Cond.fieldLink RX2 27 "RegionNets$Steps" "highSources" "[[I"]
def wsX3_regionCount : List Cond := .code yX3_regionCount cX3_regionCount 1 (some .int) :: ((wsX3_regionCount_r1 ++ wsX3_regionCount_r2) ++ wsX30 ++ wsX10 ++ wsX20)
def wsX3_needRegion_r1 : List Cond := [Cond.classLink RX3 147 "java/lang/IndexOutOfBoundsException", Cond.initialized "java/lang/IndexOutOfBoundsException", Cond.fieldLink RX3 21 "RegionNets" "regions" "LRegionNets$Regions;", Cond.methodLink RX3 95 yX1_count, Cond.instanceMethod yX1_count, Cond.selects RX1 yX1_count yX1_count, Cond.initialized RX1, Cond.code yX1_count cX1_count 1 (some .int), Cond.fieldLink RX1 29 "RegionNets$Regions" "known" "Z", Cond.fieldLink RX1 36 "RegionNets$Regions" "count" "I", Cond.methodLink RX1 33 yX1_search, Cond.instanceMethod yX1_search, Cond.selects RX1 yX1_search yX1_search, Cond.code yX1_search cX1_search 3 none, Cond.fieldLink RX1 9 "RegionNets$Regions" "steps" "LRegionNets$Steps;", Cond.fieldLink RX1 15 "RegionNets$Regions" "sets" "[I", Cond.methodLink RX1 19 yX2_all, Cond.instanceMethod yX2_all, Cond.selects RX2 yX2_all yX2_all, Cond.initialized RX2, Cond.code yX2_all cX2_all 1 (some .int), Cond.fieldLink RX2 9 "RegionNets$Steps" "states" "I", Cond.methodLink RX1 25 yX2_firstMixed, Cond.instanceMethod yX2_firstMixed]
def wsX3_needRegion_r2 : List Cond := [Cond.selects RX2 yX2_firstMixed yX2_firstMixed, Cond.code yX2_firstMixed cX2_firstMixed 3 (some .int), Cond.methodLink RX2 49 yX2_way, Cond.instanceMethod yX2_way, Cond.selects RX2 yX2_way yX2_way, Cond.code yX2_way cX2_way 6 (some .int), Cond.fieldLink RX2 20 "RegionNets$Steps" "begins" "[I", Cond.methodLink RX2 46 yX2_sourcesOf, Cond.instanceMethod yX2_sourcesOf, Cond.selects RX2 yX2_sourcesOf yX2_sourcesOf, Cond.code yX2_sourcesOf cX2_sourcesOf 3 (some .int), Cond.fieldLink RX2 24 "RegionNets$Steps" "lowSources" "[[I", Cond.fieldLink RX2 27 "RegionNets$Steps" "highSources" "[[I"]
def wsX3_needRegion : List Cond := .code yX3_needRegion cX3_needRegion 2 none :: ((wsX3_needRegion_r1 ++ wsX3_needRegion_r2) ++ wsX30 ++ wsX10 ++ wsX20 ++ (vx_atS RX3 151 "java/lang/IndexOutOfBoundsException" ["java/lang/RuntimeException", "java/lang/Exception"]).filter goodWord)
def wsX3_region_r1 : List Cond := [Cond.fieldLink RX3 21 "RegionNets" "regions" "LRegionNets$Regions;", Cond.methodLink RX3 98 yX3_needRegion, Cond.instanceMethod yX3_needRegion, Cond.selects RX3 yX3_needRegion yX3_needRegion, Cond.initialized RX3, Cond.code yX3_needRegion cX3_needRegion 2 none, Cond.classLink RX3 147 "java/lang/IndexOutOfBoundsException", Cond.initialized "java/lang/IndexOutOfBoundsException", Cond.methodLink RX3 95 yX1_count, Cond.instanceMethod yX1_count, Cond.selects RX1 yX1_count yX1_count, Cond.initialized RX1, Cond.code yX1_count cX1_count 1 (some .int), Cond.fieldLink RX1 29 "RegionNets$Regions" "known" "Z", Cond.fieldLink RX1 36 "RegionNets$Regions" "count" "I", Cond.methodLink RX1 33 yX1_search, Cond.instanceMethod yX1_search, Cond.selects RX1 yX1_search yX1_search, Cond.code yX1_search cX1_search 3 none, Cond.fieldLink RX1 9 "RegionNets$Regions" "steps" "LRegionNets$Steps;", Cond.fieldLink RX1 15 "RegionNets$Regions" "sets" "[I", Cond.methodLink RX1 19 yX2_all, Cond.instanceMethod yX2_all, Cond.selects RX2 yX2_all yX2_all]
def wsX3_region_r2 : List Cond := [Cond.initialized RX2, Cond.code yX2_all cX2_all 1 (some .int), Cond.fieldLink RX2 9 "RegionNets$Steps" "states" "I", Cond.methodLink RX1 25 yX2_firstMixed, Cond.instanceMethod yX2_firstMixed, Cond.selects RX2 yX2_firstMixed yX2_firstMixed, Cond.code yX2_firstMixed cX2_firstMixed 3 (some .int), Cond.methodLink RX2 49 yX2_way, Cond.instanceMethod yX2_way, Cond.selects RX2 yX2_way yX2_way, Cond.code yX2_way cX2_way 6 (some .int), Cond.fieldLink RX2 20 "RegionNets$Steps" "begins" "[I", Cond.methodLink RX2 46 yX2_sourcesOf, Cond.instanceMethod yX2_sourcesOf, Cond.selects RX2 yX2_sourcesOf yX2_sourcesOf, Cond.code yX2_sourcesOf cX2_sourcesOf 3 (some .int), Cond.fieldLink RX2 24 "RegionNets$Steps" "lowSources" "[[I", Cond.fieldLink RX2 27 "RegionNets$Steps" "highSources" "[[I", Cond.methodLink RX3 101 yX1_at, Cond.instanceMethod yX1_at, Cond.selects RX1 yX1_at yX1_at, Cond.code yX1_at cX1_at 2 (some .int)]
def wsX3_region : List Cond := .code yX3_region cX3_region 2 (some .int) :: ((wsX3_region_r1 ++ wsX3_region_r2) ++ wsX30 ++ wsX10 ++ wsX20 ++ (vx_atS RX3 151 "java/lang/IndexOutOfBoundsException" ["java/lang/RuntimeException", "java/lang/Exception"]).filter goodWord)
def wsX3_isLeast_r1 : List Cond := [Cond.fieldLink RX3 21 "RegionNets" "regions" "LRegionNets$Regions;", Cond.methodLink RX3 98 yX3_needRegion, Cond.instanceMethod yX3_needRegion, Cond.selects RX3 yX3_needRegion yX3_needRegion, Cond.initialized RX3, Cond.code yX3_needRegion cX3_needRegion 2 none, Cond.classLink RX3 147 "java/lang/IndexOutOfBoundsException", Cond.initialized "java/lang/IndexOutOfBoundsException", Cond.methodLink RX3 95 yX1_count, Cond.instanceMethod yX1_count, Cond.selects RX1 yX1_count yX1_count, Cond.initialized RX1, Cond.code yX1_count cX1_count 1 (some .int), Cond.fieldLink RX1 29 "RegionNets$Regions" "known" "Z", Cond.fieldLink RX1 36 "RegionNets$Regions" "count" "I", Cond.methodLink RX1 33 yX1_search, Cond.instanceMethod yX1_search, Cond.selects RX1 yX1_search yX1_search, Cond.code yX1_search cX1_search 3 none, Cond.fieldLink RX1 9 "RegionNets$Regions" "steps" "LRegionNets$Steps;", Cond.fieldLink RX1 15 "RegionNets$Regions" "sets" "[I", Cond.methodLink RX1 19 yX2_all, Cond.instanceMethod yX2_all, Cond.selects RX2 yX2_all yX2_all]
def wsX3_isLeast_r2 : List Cond := [Cond.initialized RX2, Cond.code yX2_all cX2_all 1 (some .int), Cond.fieldLink RX2 9 "RegionNets$Steps" "states" "I", Cond.methodLink RX1 25 yX2_firstMixed, Cond.instanceMethod yX2_firstMixed, Cond.selects RX2 yX2_firstMixed yX2_firstMixed, Cond.code yX2_firstMixed cX2_firstMixed 3 (some .int), Cond.methodLink RX2 49 yX2_way, Cond.instanceMethod yX2_way, Cond.selects RX2 yX2_way yX2_way, Cond.code yX2_way cX2_way 6 (some .int), Cond.fieldLink RX2 20 "RegionNets$Steps" "begins" "[I", Cond.methodLink RX2 46 yX2_sourcesOf, Cond.instanceMethod yX2_sourcesOf, Cond.selects RX2 yX2_sourcesOf yX2_sourcesOf, Cond.code yX2_sourcesOf cX2_sourcesOf 3 (some .int), Cond.fieldLink RX2 24 "RegionNets$Steps" "lowSources" "[[I", Cond.fieldLink RX2 27 "RegionNets$Steps" "highSources" "[[I", Cond.methodLink RX3 104 yX1_hasNoPart, Cond.instanceMethod yX1_hasNoPart, Cond.selects RX1 yX1_hasNoPart yX1_hasNoPart, Cond.code yX1_hasNoPart cX1_hasNoPart 3 (some .boolean)]
def wsX3_isLeast : List Cond := .code yX3_isLeast cX3_isLeast 2 (some .boolean) :: ((wsX3_isLeast_r1 ++ wsX3_isLeast_r2) ++ wsX30 ++ wsX10 ++ wsX20 ++ (vx_atS RX3 151 "java/lang/IndexOutOfBoundsException" ["java/lang/RuntimeException", "java/lang/Exception"]).filter goodWord)
def wsX3_grow_r1 : List Cond := [Cond.fieldLink RX3 10 "RegionNets" "steps" "LRegionNets$Steps;", Cond.methodLink RX3 85 yX3_needSet, Cond.instanceMethod yX3_needSet, Cond.selects RX3 yX3_needSet yX3_needSet, Cond.initialized RX3, Cond.code yX3_needSet cX3_needSet 2 none, Cond.classLink RX3 198 "java/lang/IllegalArgumentException", Cond.initialized "java/lang/IllegalArgumentException", Cond.methodLink RX3 195 yX2_all, Cond.instanceMethod yX2_all, Cond.selects RX2 yX2_all yX2_all, Cond.initialized RX2, Cond.code yX2_all cX2_all 1 (some .int), Cond.fieldLink RX2 9 "RegionNets$Steps" "states" "I", Cond.methodLink RX3 107 yX2_grown, Cond.instanceMethod yX2_grown, Cond.selects RX2 yX2_grown yX2_grown, Cond.code yX2_grown cX2_grown 5 (some .int), Cond.methodLink RX2 52 yX2_firstMixed, Cond.instanceMethod yX2_firstMixed, Cond.selects RX2 yX2_firstMixed yX2_firstMixed, Cond.code yX2_firstMixed cX2_firstMixed 3 (some .int), Cond.methodLink RX2 49 yX2_way, Cond.instanceMethod yX2_way]
def wsX3_grow_r2 : List Cond := [Cond.selects RX2 yX2_way yX2_way, Cond.code yX2_way cX2_way 6 (some .int), Cond.fieldLink RX2 20 "RegionNets$Steps" "begins" "[I", Cond.methodLink RX2 46 yX2_sourcesOf, Cond.instanceMethod yX2_sourcesOf, Cond.selects RX2 yX2_sourcesOf yX2_sourcesOf, Cond.code yX2_sourcesOf cX2_sourcesOf 3 (some .int), Cond.fieldLink RX2 24 "RegionNets$Steps" "lowSources" "[[I", Cond.fieldLink RX2 27 "RegionNets$Steps" "highSources" "[[I", Cond.methodLink RX2 56 yX2_growth, Cond.instanceMethod yX2_growth, Cond.selects RX2 yX2_growth yX2_growth, Cond.code yX2_growth cX2_growth 6 (some .int), Cond.methodLink RX2 59 yX2_endsOf, Cond.instanceMethod yX2_endsOf, Cond.selects RX2 yX2_endsOf yX2_endsOf, Cond.code yX2_endsOf cX2_endsOf 5 (some .int), Cond.fieldLink RX2 17 "RegionNets$Steps" "ends" "[[I"]
def wsX3_grow : List Cond := .code yX3_grow cX3_grow 2 (some .int) :: ((wsX3_grow_r1 ++ wsX3_grow_r2) ++ wsX30 ++ wsX20 ++ (vx_atS RX3 202 "java/lang/IllegalArgumentException" ["java/lang/RuntimeException", "java/lang/Exception"]).filter goodWord)
def wsX3_apart_r1 : List Cond := [Cond.fieldLink RX3 21 "RegionNets" "regions" "LRegionNets$Regions;", Cond.methodLink RX3 48 yX3_needState, Cond.instanceMethod yX3_needState, Cond.selects RX3 yX3_needState yX3_needState, Cond.initialized RX3, Cond.code yX3_needState cX3_needState 2 none, Cond.classLink RX3 147 "java/lang/IndexOutOfBoundsException", Cond.initialized "java/lang/IndexOutOfBoundsException", Cond.fieldLink RX3 10 "RegionNets" "steps" "LRegionNets$Steps;", Cond.methodLink RX3 110 yX1_firstApart, Cond.instanceMethod yX1_firstApart, Cond.selects RX1 yX1_firstApart yX1_firstApart, Cond.initialized RX1, Cond.code yX1_firstApart cX1_firstApart 5 (some .int), Cond.fieldLink RX1 15 "RegionNets$Regions" "sets" "[I", Cond.methodLink RX1 40 yX1_count, Cond.instanceMethod yX1_count, Cond.selects RX1 yX1_count yX1_count, Cond.code yX1_count cX1_count 1 (some .int), Cond.fieldLink RX1 29 "RegionNets$Regions" "known" "Z", Cond.fieldLink RX1 36 "RegionNets$Regions" "count" "I", Cond.methodLink RX1 33 yX1_search, Cond.instanceMethod yX1_search, Cond.selects RX1 yX1_search yX1_search]
def wsX3_apart_r2 : List Cond := [Cond.code yX1_search cX1_search 3 none, Cond.fieldLink RX1 9 "RegionNets$Regions" "steps" "LRegionNets$Steps;", Cond.methodLink RX1 19 yX2_all, Cond.instanceMethod yX2_all, Cond.selects RX2 yX2_all yX2_all, Cond.initialized RX2, Cond.code yX2_all cX2_all 1 (some .int), Cond.fieldLink RX2 9 "RegionNets$Steps" "states" "I", Cond.methodLink RX1 25 yX2_firstMixed, Cond.instanceMethod yX2_firstMixed, Cond.selects RX2 yX2_firstMixed yX2_firstMixed, Cond.code yX2_firstMixed cX2_firstMixed 3 (some .int), Cond.methodLink RX2 49 yX2_way, Cond.instanceMethod yX2_way, Cond.selects RX2 yX2_way yX2_way, Cond.code yX2_way cX2_way 6 (some .int), Cond.fieldLink RX2 20 "RegionNets$Steps" "begins" "[I", Cond.methodLink RX2 46 yX2_sourcesOf, Cond.instanceMethod yX2_sourcesOf, Cond.selects RX2 yX2_sourcesOf yX2_sourcesOf, Cond.code yX2_sourcesOf cX2_sourcesOf 3 (some .int), Cond.fieldLink RX2 24 "RegionNets$Steps" "lowSources" "[[I", Cond.fieldLink RX2 27 "RegionNets$Steps" "highSources" "[[I", Cond.static yX3_has]
def wsX3_apart_r3 : List Cond := [Cond.code yX3_has cX3_has 2 (some .boolean)]
def wsX3_apart : List Cond := .code yX3_apart cX3_apart 3 (some .int) :: ((wsX3_apart_r1 ++ (wsX3_apart_r2 ++ wsX3_apart_r3)) ++ wsX30 ++ wsX20 ++ wsX10 ++ (vx_atS RX3 151 "java/lang/IndexOutOfBoundsException" ["java/lang/RuntimeException", "java/lang/Exception"]).filter goodWord)
def wsX3_preventer_r1 : List Cond := [Cond.fieldLink RX3 10 "RegionNets" "steps" "LRegionNets$Steps;", Cond.fieldLink RX3 21 "RegionNets" "regions" "LRegionNets$Regions;", Cond.methodLink RX3 48 yX3_needState, Cond.instanceMethod yX3_needState, Cond.selects RX3 yX3_needState yX3_needState, Cond.initialized RX3, Cond.code yX3_needState cX3_needState 2 none, Cond.classLink RX3 147 "java/lang/IndexOutOfBoundsException", Cond.initialized "java/lang/IndexOutOfBoundsException", Cond.methodLink RX3 52 yX3_needLabel, Cond.static yX3_needLabel, Cond.code yX3_needLabel cX3_needLabel 1 none, Cond.methodLink RX3 55 yX2_end, Cond.instanceMethod yX2_end, Cond.selects RX2 yX2_end yX2_end, Cond.initialized RX2, Cond.code yX2_end cX2_end 3 (some .int), Cond.fieldLink RX2 17 "RegionNets$Steps" "ends" "[[I", Cond.methodLink RX3 113 yX1_firstPreventing, Cond.instanceMethod yX1_firstPreventing, Cond.selects RX1 yX1_firstPreventing yX1_firstPreventing, Cond.initialized RX1, Cond.code yX1_firstPreventing cX1_firstPreventing 5 (some .int), Cond.fieldLink RX1 15 "RegionNets$Regions" "sets" "[I"]
def wsX3_preventer_r2 : List Cond := [Cond.methodLink RX1 40 yX1_count, Cond.instanceMethod yX1_count, Cond.selects RX1 yX1_count yX1_count, Cond.code yX1_count cX1_count 1 (some .int), Cond.fieldLink RX1 29 "RegionNets$Regions" "known" "Z", Cond.fieldLink RX1 36 "RegionNets$Regions" "count" "I", Cond.methodLink RX1 33 yX1_search, Cond.instanceMethod yX1_search, Cond.selects RX1 yX1_search yX1_search, Cond.code yX1_search cX1_search 3 none, Cond.fieldLink RX1 9 "RegionNets$Regions" "steps" "LRegionNets$Steps;", Cond.methodLink RX1 19 yX2_all, Cond.instanceMethod yX2_all, Cond.selects RX2 yX2_all yX2_all, Cond.code yX2_all cX2_all 1 (some .int), Cond.fieldLink RX2 9 "RegionNets$Steps" "states" "I", Cond.methodLink RX1 25 yX2_firstMixed, Cond.instanceMethod yX2_firstMixed, Cond.selects RX2 yX2_firstMixed yX2_firstMixed, Cond.code yX2_firstMixed cX2_firstMixed 3 (some .int), Cond.methodLink RX2 49 yX2_way, Cond.instanceMethod yX2_way, Cond.selects RX2 yX2_way yX2_way, Cond.code yX2_way cX2_way 6 (some .int)]
def wsX3_preventer_r3 : List Cond := [Cond.fieldLink RX2 20 "RegionNets$Steps" "begins" "[I", Cond.methodLink RX2 46 yX2_sourcesOf, Cond.instanceMethod yX2_sourcesOf, Cond.selects RX2 yX2_sourcesOf yX2_sourcesOf, Cond.code yX2_sourcesOf cX2_sourcesOf 3 (some .int), Cond.fieldLink RX2 24 "RegionNets$Steps" "lowSources" "[[I", Cond.fieldLink RX2 27 "RegionNets$Steps" "highSources" "[[I", Cond.methodLink RX1 46 yX1_prevents, Cond.instanceMethod yX1_prevents, Cond.selects RX1 yX1_prevents yX1_prevents, Cond.code yX1_prevents cX1_prevents 5 (some .boolean), Cond.methodLink RX1 50 yX2_way, Cond.static yX3_has, Cond.code yX3_has cX3_has 2 (some .boolean)]
def wsX3_preventer : List Cond := .code yX3_preventer cX3_preventer 3 (some .int) :: ((wsX3_preventer_r1 ++ (wsX3_preventer_r2 ++ wsX3_preventer_r3)) ++ wsX30 ++ wsX20 ++ wsX10 ++ (vx_atS RX3 151 "java/lang/IndexOutOfBoundsException" ["java/lang/RuntimeException", "java/lang/Exception"]).filter goodWord)
def wsX3_lumps_r1 : List Cond := [Cond.fieldLink RX3 21 "RegionNets" "regions" "LRegionNets$Regions;", Cond.methodLink RX3 116 yX1_pairsNotApart, Cond.instanceMethod yX1_pairsNotApart, Cond.selects RX1 yX1_pairsNotApart yX1_pairsNotApart, Cond.initialized RX1, Cond.code yX1_pairsNotApart cX1_pairsNotApart 4 (some .int), Cond.fieldLink RX1 9 "RegionNets$Regions" "steps" "LRegionNets$Steps;", Cond.methodLink RX1 57 yX1_firstApart, Cond.instanceMethod yX1_firstApart, Cond.selects RX1 yX1_firstApart yX1_firstApart, Cond.code yX1_firstApart cX1_firstApart 5 (some .int), Cond.fieldLink RX1 15 "RegionNets$Regions" "sets" "[I", Cond.methodLink RX1 40 yX1_count, Cond.instanceMethod yX1_count, Cond.selects RX1 yX1_count yX1_count, Cond.code yX1_count cX1_count 1 (some .int), Cond.fieldLink RX1 29 "RegionNets$Regions" "known" "Z", Cond.fieldLink RX1 36 "RegionNets$Regions" "count" "I", Cond.methodLink RX1 33 yX1_search, Cond.instanceMethod yX1_search, Cond.selects RX1 yX1_search yX1_search, Cond.code yX1_search cX1_search 3 none, Cond.methodLink RX1 19 yX2_all, Cond.instanceMethod yX2_all]
def wsX3_lumps_r2 : List Cond := [Cond.selects RX2 yX2_all yX2_all, Cond.initialized RX2, Cond.code yX2_all cX2_all 1 (some .int), Cond.fieldLink RX2 9 "RegionNets$Steps" "states" "I", Cond.methodLink RX1 25 yX2_firstMixed, Cond.instanceMethod yX2_firstMixed, Cond.selects RX2 yX2_firstMixed yX2_firstMixed, Cond.code yX2_firstMixed cX2_firstMixed 3 (some .int), Cond.methodLink RX2 49 yX2_way, Cond.instanceMethod yX2_way, Cond.selects RX2 yX2_way yX2_way, Cond.code yX2_way cX2_way 6 (some .int), Cond.fieldLink RX2 20 "RegionNets$Steps" "begins" "[I", Cond.methodLink RX2 46 yX2_sourcesOf, Cond.instanceMethod yX2_sourcesOf, Cond.selects RX2 yX2_sourcesOf yX2_sourcesOf, Cond.code yX2_sourcesOf cX2_sourcesOf 3 (some .int), Cond.fieldLink RX2 24 "RegionNets$Steps" "lowSources" "[[I", Cond.fieldLink RX2 27 "RegionNets$Steps" "highSources" "[[I", Cond.static yX3_has, Cond.initialized RX3, Cond.code yX3_has cX3_has 2 (some .boolean)]
def wsX3_lumps : List Cond := .code yX3_lumps cX3_lumps 1 (some .int) :: ((wsX3_lumps_r1 ++ wsX3_lumps_r2) ++ wsX30 ++ wsX10 ++ wsX20)
def wsX3_leaks_r1 : List Cond := [Cond.fieldLink RX3 21 "RegionNets" "regions" "LRegionNets$Regions;", Cond.methodLink RX3 119 yX1_pairsNotPrevented, Cond.instanceMethod yX1_pairsNotPrevented, Cond.selects RX1 yX1_pairsNotPrevented yX1_pairsNotPrevented, Cond.initialized RX1, Cond.code yX1_pairsNotPrevented cX1_pairsNotPrevented 3 (some .int), Cond.fieldLink RX1 9 "RegionNets$Regions" "steps" "LRegionNets$Steps;", Cond.methodLink RX1 60 yX2_stopsOf, Cond.instanceMethod yX2_stopsOf, Cond.selects RX2 yX2_stopsOf yX2_stopsOf, Cond.initialized RX2, Cond.code yX2_stopsOf cX2_stopsOf 2 (some .int), Cond.fieldLink RX2 20 "RegionNets$Steps" "begins" "[I", Cond.methodLink RX2 69 yX2_all, Cond.instanceMethod yX2_all, Cond.selects RX2 yX2_all yX2_all, Cond.code yX2_all cX2_all 1 (some .int), Cond.fieldLink RX2 9 "RegionNets$Steps" "states" "I", Cond.methodLink RX1 63 yX1_preventedIn, Cond.instanceMethod yX1_preventedIn, Cond.selects RX1 yX1_preventedIn yX1_preventedIn, Cond.code yX1_preventedIn cX1_preventedIn 6 (some .int), Cond.fieldLink RX1 15 "RegionNets$Regions" "sets" "[I", Cond.methodLink RX1 40 yX1_count]
def wsX3_leaks_r2 : List Cond := [Cond.instanceMethod yX1_count, Cond.selects RX1 yX1_count yX1_count, Cond.code yX1_count cX1_count 1 (some .int), Cond.fieldLink RX1 29 "RegionNets$Regions" "known" "Z", Cond.fieldLink RX1 36 "RegionNets$Regions" "count" "I", Cond.methodLink RX1 33 yX1_search, Cond.instanceMethod yX1_search, Cond.selects RX1 yX1_search yX1_search, Cond.code yX1_search cX1_search 3 none, Cond.methodLink RX1 19 yX2_all, Cond.methodLink RX1 25 yX2_firstMixed, Cond.instanceMethod yX2_firstMixed, Cond.selects RX2 yX2_firstMixed yX2_firstMixed, Cond.code yX2_firstMixed cX2_firstMixed 3 (some .int), Cond.methodLink RX2 49 yX2_way, Cond.instanceMethod yX2_way, Cond.selects RX2 yX2_way yX2_way, Cond.code yX2_way cX2_way 6 (some .int), Cond.methodLink RX2 46 yX2_sourcesOf, Cond.instanceMethod yX2_sourcesOf, Cond.selects RX2 yX2_sourcesOf yX2_sourcesOf, Cond.code yX2_sourcesOf cX2_sourcesOf 3 (some .int), Cond.fieldLink RX2 24 "RegionNets$Steps" "lowSources" "[[I", Cond.fieldLink RX2 27 "RegionNets$Steps" "highSources" "[[I"]
def wsX3_leaks_r3 : List Cond := [Cond.methodLink RX1 50 yX2_way, Cond.methodLink RX1 66 yJ6_bitCount_0f7a4, Cond.static yJ6_bitCount_0f7a4, Cond.initialized RJ6, Cond.code yJ6_bitCount_0f7a4 cJ6_bitCount_0f7a4 1 (some .int), Cond.constant RJ6 265 (1431655765), Cond.constant RJ6 266 (858993459), Cond.constant RJ6 267 (252645135)]
def wsX3_leaks : List Cond := .code yX3_leaks cX3_leaks 1 (some .int) :: ((wsX3_leaks_r1 ++ (wsX3_leaks_r2 ++ wsX3_leaks_r3)) ++ wsX30 ++ wsX10 ++ wsX20)
def wsX3_fidelity_r1 : List Cond := [Cond.fieldLink RX3 10 "RegionNets" "steps" "LRegionNets$Steps;", Cond.fieldLink RX3 21 "RegionNets" "regions" "LRegionNets$Regions;", Cond.methodLink RX3 122 yX2_statePairs, Cond.instanceMethod yX2_statePairs, Cond.selects RX2 yX2_statePairs yX2_statePairs, Cond.initialized RX2, Cond.code yX2_statePairs cX2_statePairs 1 (some .int), Cond.fieldLink RX2 9 "RegionNets$Steps" "states" "I", Cond.methodLink RX3 125 yX2_stopPairs, Cond.instanceMethod yX2_stopPairs, Cond.selects RX2 yX2_stopPairs yX2_stopPairs, Cond.code yX2_stopPairs cX2_stopPairs 3 (some .int), Cond.methodLink RX2 73 yX2_stopsOf, Cond.instanceMethod yX2_stopsOf, Cond.selects RX2 yX2_stopsOf yX2_stopsOf, Cond.code yX2_stopsOf cX2_stopsOf 2 (some .int), Cond.fieldLink RX2 20 "RegionNets$Steps" "begins" "[I", Cond.methodLink RX2 69 yX2_all, Cond.instanceMethod yX2_all, Cond.selects RX2 yX2_all yX2_all, Cond.code yX2_all cX2_all 1 (some .int), Cond.methodLink RX2 76 yJ6_bitCount_0f7a4, Cond.static yJ6_bitCount_0f7a4, Cond.initialized RJ6]
def wsX3_fidelity_r2 : List Cond := [Cond.code yJ6_bitCount_0f7a4 cJ6_bitCount_0f7a4 1 (some .int), Cond.constant RJ6 265 (1431655765), Cond.constant RJ6 266 (858993459), Cond.constant RJ6 267 (252645135), Cond.methodLink RX3 116 yX1_pairsNotApart, Cond.instanceMethod yX1_pairsNotApart, Cond.selects RX1 yX1_pairsNotApart yX1_pairsNotApart, Cond.initialized RX1, Cond.code yX1_pairsNotApart cX1_pairsNotApart 4 (some .int), Cond.fieldLink RX1 9 "RegionNets$Regions" "steps" "LRegionNets$Steps;", Cond.methodLink RX1 57 yX1_firstApart, Cond.instanceMethod yX1_firstApart, Cond.selects RX1 yX1_firstApart yX1_firstApart, Cond.code yX1_firstApart cX1_firstApart 5 (some .int), Cond.fieldLink RX1 15 "RegionNets$Regions" "sets" "[I", Cond.methodLink RX1 40 yX1_count, Cond.instanceMethod yX1_count, Cond.selects RX1 yX1_count yX1_count, Cond.code yX1_count cX1_count 1 (some .int), Cond.fieldLink RX1 29 "RegionNets$Regions" "known" "Z", Cond.fieldLink RX1 36 "RegionNets$Regions" "count" "I", Cond.methodLink RX1 33 yX1_search, Cond.instanceMethod yX1_search, Cond.selects RX1 yX1_search yX1_search]
def wsX3_fidelity_r3 : List Cond := [Cond.code yX1_search cX1_search 3 none, Cond.methodLink RX1 19 yX2_all, Cond.methodLink RX1 25 yX2_firstMixed, Cond.instanceMethod yX2_firstMixed, Cond.selects RX2 yX2_firstMixed yX2_firstMixed, Cond.code yX2_firstMixed cX2_firstMixed 3 (some .int), Cond.methodLink RX2 49 yX2_way, Cond.instanceMethod yX2_way, Cond.selects RX2 yX2_way yX2_way, Cond.code yX2_way cX2_way 6 (some .int), Cond.methodLink RX2 46 yX2_sourcesOf, Cond.instanceMethod yX2_sourcesOf, Cond.selects RX2 yX2_sourcesOf yX2_sourcesOf, Cond.code yX2_sourcesOf cX2_sourcesOf 3 (some .int), Cond.fieldLink RX2 24 "RegionNets$Steps" "lowSources" "[[I", Cond.fieldLink RX2 27 "RegionNets$Steps" "highSources" "[[I", Cond.static yX3_has, Cond.initialized RX3, Cond.code yX3_has cX3_has 2 (some .boolean), Cond.methodLink RX3 119 yX1_pairsNotPrevented, Cond.instanceMethod yX1_pairsNotPrevented, Cond.selects RX1 yX1_pairsNotPrevented yX1_pairsNotPrevented, Cond.code yX1_pairsNotPrevented cX1_pairsNotPrevented 3 (some .int), Cond.methodLink RX1 60 yX2_stopsOf]
def wsX3_fidelity_r4 : List Cond := [Cond.methodLink RX1 63 yX1_preventedIn, Cond.instanceMethod yX1_preventedIn, Cond.selects RX1 yX1_preventedIn yX1_preventedIn, Cond.code yX1_preventedIn cX1_preventedIn 6 (some .int), Cond.methodLink RX1 50 yX2_way, Cond.methodLink RX1 66 yJ6_bitCount_0f7a4]
def wsX3_fidelity : List Cond := .code yX3_fidelity cX3_fidelity 3 (some .double) :: ((wsX3_fidelity_r1 ++ (wsX3_fidelity_r2 ++ (wsX3_fidelity_r3 ++ wsX3_fidelity_r4))) ++ wsX30 ++ wsX20 ++ wsX10)
def wsX3_makeNet_r1 : List Cond := [Cond.fieldLink RX3 30 "RegionNets" "net" "LRegionNets$Net;", Cond.methodLink RX3 132 yX0_make, Cond.instanceMethod yX0_make, Cond.selects RX0 yX0_make yX0_make, Cond.initialized RX0, Cond.code yX0_make cX0_make 2 none, Cond.fieldLink RX0 23 "RegionNets$Net" "takes" "[I", Cond.fieldLink RX0 26 "RegionNets$Net" "gives" "[I", Cond.fieldLink RX0 43 "RegionNets$Net" "first" "I", Cond.fieldLink RX0 47 "RegionNets$Net" "found" "I", Cond.fieldLink RX0 50 "RegionNets$Net" "made" "Z", Cond.methodLink RX0 32 yX0_choosePlaces, Cond.instanceMethod yX0_choosePlaces, Cond.selects RX0 yX0_choosePlaces yX0_choosePlaces, Cond.code yX0_choosePlaces cX0_choosePlaces 4 none, Cond.fieldLink RX0 54 "RegionNets$Net" "places" "I", Cond.fieldLink RX0 15 "RegionNets$Net" "regions" "LRegionNets$Regions;", Cond.fieldLink RX0 19 "RegionNets$Net" "placeSets" "[I", Cond.methodLink RX0 57 yX1_count, Cond.instanceMethod yX1_count, Cond.selects RX1 yX1_count yX1_count, Cond.initialized RX1, Cond.code yX1_count cX1_count 1 (some .int), Cond.fieldLink RX1 29 "RegionNets$Regions" "known" "Z"]
def wsX3_makeNet_r2 : List Cond := [Cond.fieldLink RX1 36 "RegionNets$Regions" "count" "I", Cond.methodLink RX1 33 yX1_search, Cond.instanceMethod yX1_search, Cond.selects RX1 yX1_search yX1_search, Cond.code yX1_search cX1_search 3 none, Cond.fieldLink RX1 9 "RegionNets$Regions" "steps" "LRegionNets$Steps;", Cond.fieldLink RX1 15 "RegionNets$Regions" "sets" "[I", Cond.methodLink RX1 19 yX2_all, Cond.instanceMethod yX2_all, Cond.selects RX2 yX2_all yX2_all, Cond.initialized RX2, Cond.code yX2_all cX2_all 1 (some .int), Cond.fieldLink RX2 9 "RegionNets$Steps" "states" "I", Cond.methodLink RX1 25 yX2_firstMixed, Cond.instanceMethod yX2_firstMixed, Cond.selects RX2 yX2_firstMixed yX2_firstMixed, Cond.code yX2_firstMixed cX2_firstMixed 3 (some .int), Cond.methodLink RX2 49 yX2_way, Cond.instanceMethod yX2_way, Cond.selects RX2 yX2_way yX2_way, Cond.code yX2_way cX2_way 6 (some .int), Cond.fieldLink RX2 20 "RegionNets$Steps" "begins" "[I", Cond.methodLink RX2 46 yX2_sourcesOf, Cond.instanceMethod yX2_sourcesOf]
def wsX3_makeNet_r3 : List Cond := [Cond.selects RX2 yX2_sourcesOf yX2_sourcesOf, Cond.code yX2_sourcesOf cX2_sourcesOf 3 (some .int), Cond.fieldLink RX2 24 "RegionNets$Steps" "lowSources" "[[I", Cond.fieldLink RX2 27 "RegionNets$Steps" "highSources" "[[I", Cond.methodLink RX0 63 yX1_at, Cond.instanceMethod yX1_at, Cond.selects RX1 yX1_at yX1_at, Cond.code yX1_at cX1_at 2 (some .int), Cond.methodLink RX0 66 yX0_holdsPlace, Cond.instanceMethod yX0_holdsPlace, Cond.selects RX0 yX0_holdsPlace yX0_holdsPlace, Cond.code yX0_holdsPlace cX0_holdsPlace 3 (some .boolean), Cond.methodLink RX0 35 yX0_placesCrossed, Cond.instanceMethod yX0_placesCrossed, Cond.selects RX0 yX0_placesCrossed yX0_placesCrossed, Cond.code yX0_placesCrossed cX0_placesCrossed 5 (some .int), Cond.fieldLink RX0 9 "RegionNets$Net" "steps" "LRegionNets$Steps;", Cond.methodLink RX0 70 yX2_way, Cond.methodLink RX0 39 yX0_placesWith, Cond.instanceMethod yX0_placesWith, Cond.selects RX0 yX0_placesWith yX0_placesWith, Cond.code yX0_placesWith cX0_placesWith 4 (some .int), Cond.static yX3_has, Cond.initialized RX3]
def wsX3_makeNet_r4 : List Cond := [Cond.code yX3_has cX3_has 2 (some .boolean)]
def wsX3_makeNet : List Cond := .code yX3_makeNet cX3_makeNet 1 (some .int) :: ((wsX3_makeNet_r1 ++ (wsX3_makeNet_r2 ++ (wsX3_makeNet_r3 ++ wsX3_makeNet_r4))) ++ wsX30 ++ wsX00 ++ wsX10 ++ wsX20)
def wsX3_hasNet : List Cond := .code yX3_hasNet cX3_hasNet 1 (some .boolean) :: ([.fieldLink RX3 30 "RegionNets" "net" "LRegionNets$Net;"] ++ wsX30 ++ wsX00)
def wsX3_needNet : List Cond := .code yX3_needNet cX3_needNet 1 none :: ([.classLink RX3 38 "java/lang/IllegalStateException", .initialized "java/lang/IllegalStateException", .fieldLink RX3 30 "RegionNets" "net" "LRegionNets$Net;"] ++ wsX30 ++ wsX00 ++ (vx_atS RX3 42 "java/lang/IllegalStateException" ["java/lang/RuntimeException", "java/lang/Exception"]).filter goodWord)
def wsX3_placeRegion : List Cond := .code yX3_placeRegion cX3_placeRegion 2 (some .int) :: ([.classLink RX3 147 "java/lang/IndexOutOfBoundsException", .initialized "java/lang/IndexOutOfBoundsException", .fieldLink RX3 30 "RegionNets" "net" "LRegionNets$Net;", .methodLink RX3 144 yX3_needNet, .instanceMethod yX3_needNet, .selects RX3 yX3_needNet yX3_needNet, .initialized RX3, .code yX3_needNet cX3_needNet 1 none, .classLink RX3 38 "java/lang/IllegalStateException", .initialized "java/lang/IllegalStateException", .methodLink RX3 152 yX0_regionOf, .instanceMethod yX0_regionOf, .selects RX0 yX0_regionOf yX0_regionOf, .initialized RX0, .code yX0_regionOf cX0_regionOf 2 (some .int), .fieldLink RX0 19 "RegionNets$Net" "placeSets" "[I"] ++ wsX30 ++ wsX00 ++ (vx_atS RX3 151 "java/lang/IndexOutOfBoundsException" ["java/lang/RuntimeException", "java/lang/Exception"]).filter goodWord ++ (vx_atS RX3 42 "java/lang/IllegalStateException" ["java/lang/RuntimeException", "java/lang/Exception"]).filter goodWord)
def wsX3_consumed : List Cond := .code yX3_consumed cX3_consumed 2 (some .int) :: ([.fieldLink RX3 30 "RegionNets" "net" "LRegionNets$Net;", .methodLink RX3 144 yX3_needNet, .instanceMethod yX3_needNet, .selects RX3 yX3_needNet yX3_needNet, .initialized RX3, .code yX3_needNet cX3_needNet 1 none, .classLink RX3 38 "java/lang/IllegalStateException", .initialized "java/lang/IllegalStateException", .methodLink RX3 52 yX3_needLabel, .static yX3_needLabel, .code yX3_needLabel cX3_needLabel 1 none, .classLink RX3 147 "java/lang/IndexOutOfBoundsException", .initialized "java/lang/IndexOutOfBoundsException", .methodLink RX3 155 yX0_takenBy, .instanceMethod yX0_takenBy, .selects RX0 yX0_takenBy yX0_takenBy, .initialized RX0, .code yX0_takenBy cX0_takenBy 2 (some .int), .fieldLink RX0 23 "RegionNets$Net" "takes" "[I"] ++ wsX30 ++ wsX00 ++ (vx_atS RX3 42 "java/lang/IllegalStateException" ["java/lang/RuntimeException", "java/lang/Exception"]).filter goodWord ++ (vx_atS RX3 151 "java/lang/IndexOutOfBoundsException" ["java/lang/RuntimeException", "java/lang/Exception"]).filter goodWord)
def wsX3_produced : List Cond := .code yX3_produced cX3_produced 2 (some .int) :: ([.fieldLink RX3 30 "RegionNets" "net" "LRegionNets$Net;", .methodLink RX3 144 yX3_needNet, .instanceMethod yX3_needNet, .selects RX3 yX3_needNet yX3_needNet, .initialized RX3, .code yX3_needNet cX3_needNet 1 none, .classLink RX3 38 "java/lang/IllegalStateException", .initialized "java/lang/IllegalStateException", .methodLink RX3 52 yX3_needLabel, .static yX3_needLabel, .code yX3_needLabel cX3_needLabel 1 none, .classLink RX3 147 "java/lang/IndexOutOfBoundsException", .initialized "java/lang/IndexOutOfBoundsException", .methodLink RX3 158 yX0_givenBy, .instanceMethod yX0_givenBy, .selects RX0 yX0_givenBy yX0_givenBy, .initialized RX0, .code yX0_givenBy cX0_givenBy 2 (some .int), .fieldLink RX0 26 "RegionNets$Net" "gives" "[I"] ++ wsX30 ++ wsX00 ++ (vx_atS RX3 42 "java/lang/IllegalStateException" ["java/lang/RuntimeException", "java/lang/Exception"]).filter goodWord ++ (vx_atS RX3 151 "java/lang/IndexOutOfBoundsException" ["java/lang/RuntimeException", "java/lang/Exception"]).filter goodWord)
def wsX3_marking : List Cond := .code yX3_marking cX3_marking 1 (some .int) :: ([.fieldLink RX3 30 "RegionNets" "net" "LRegionNets$Net;", .methodLink RX3 144 yX3_needNet, .instanceMethod yX3_needNet, .selects RX3 yX3_needNet yX3_needNet, .initialized RX3, .code yX3_needNet cX3_needNet 1 none, .classLink RX3 38 "java/lang/IllegalStateException", .initialized "java/lang/IllegalStateException"] ++ wsX30 ++ wsX00 ++ (vx_atS RX3 42 "java/lang/IllegalStateException" ["java/lang/RuntimeException", "java/lang/Exception"]).filter goodWord)
def wsX3_fire_r1 : List Cond := [Cond.fieldLink RX3 30 "RegionNets" "net" "LRegionNets$Net;", Cond.methodLink RX3 144 yX3_needNet, Cond.instanceMethod yX3_needNet, Cond.selects RX3 yX3_needNet yX3_needNet, Cond.initialized RX3, Cond.code yX3_needNet cX3_needNet 1 none, Cond.classLink RX3 38 "java/lang/IllegalStateException", Cond.initialized "java/lang/IllegalStateException", Cond.methodLink RX3 52 yX3_needLabel, Cond.static yX3_needLabel, Cond.code yX3_needLabel cX3_needLabel 1 none, Cond.classLink RX3 147 "java/lang/IndexOutOfBoundsException", Cond.initialized "java/lang/IndexOutOfBoundsException", Cond.methodLink RX3 161 yX0_canFire, Cond.instanceMethod yX0_canFire, Cond.selects RX0 yX0_canFire yX0_canFire, Cond.initialized RX0, Cond.code yX0_canFire cX0_canFire 3 (some .boolean), Cond.fieldLink RX0 9 "RegionNets$Net" "steps" "LRegionNets$Steps;", Cond.fieldLink RX0 23 "RegionNets$Net" "takes" "[I", Cond.fieldLink RX0 26 "RegionNets$Net" "gives" "[I", Cond.methodLink RX0 79 yX2_beginning, Cond.instanceMethod yX2_beginning, Cond.selects RX2 yX2_beginning yX2_beginning]
def wsX3_fire_r2 : List Cond := [Cond.initialized RX2, Cond.code yX2_beginning cX2_beginning 2 (some .int), Cond.fieldLink RX2 20 "RegionNets$Steps" "begins" "[I", Cond.methodLink RX3 165 yX0_behind, Cond.instanceMethod yX0_behind, Cond.selects RX0 yX0_behind yX0_behind, Cond.code yX0_behind cX0_behind 3 (some .int)]
def wsX3_fire : List Cond := .code yX3_fire cX3_fire 2 (some .int) :: ((wsX3_fire_r1 ++ wsX3_fire_r2) ++ wsX30 ++ wsX00 ++ wsX20 ++ (vx_atS RX3 42 "java/lang/IllegalStateException" ["java/lang/RuntimeException", "java/lang/Exception"]).filter goodWord ++ (vx_atS RX3 151 "java/lang/IndexOutOfBoundsException" ["java/lang/RuntimeException", "java/lang/Exception"]).filter goodWord)
def wsX3_markingCount_r1 : List Cond := [Cond.fieldLink RX3 30 "RegionNets" "net" "LRegionNets$Net;", Cond.methodLink RX3 144 yX3_needNet, Cond.instanceMethod yX3_needNet, Cond.selects RX3 yX3_needNet yX3_needNet, Cond.initialized RX3, Cond.code yX3_needNet cX3_needNet 1 none, Cond.classLink RX3 38 "java/lang/IllegalStateException", Cond.initialized "java/lang/IllegalStateException", Cond.methodLink RX3 168 yX0_markingsFound, Cond.instanceMethod yX0_markingsFound, Cond.selects RX0 yX0_markingsFound yX0_markingsFound, Cond.initialized RX0, Cond.code yX0_markingsFound cX0_markingsFound 1 (some .int), Cond.fieldLink RX0 47 "RegionNets$Net" "found" "I", Cond.methodLink RX0 82 yX0_findMarkings, Cond.instanceMethod yX0_findMarkings, Cond.selects RX0 yX0_findMarkings yX0_findMarkings, Cond.code yX0_findMarkings cX0_findMarkings 3 none, Cond.fieldLink RX0 29 "RegionNets$Net" "markings" "[I", Cond.fieldLink RX0 43 "RegionNets$Net" "first" "I", Cond.methodLink RX0 85 yX0_canFire, Cond.instanceMethod yX0_canFire, Cond.selects RX0 yX0_canFire yX0_canFire, Cond.code yX0_canFire cX0_canFire 3 (some .boolean)]
def wsX3_markingCount_r2 : List Cond := [Cond.fieldLink RX0 9 "RegionNets$Net" "steps" "LRegionNets$Steps;", Cond.fieldLink RX0 23 "RegionNets$Net" "takes" "[I", Cond.fieldLink RX0 26 "RegionNets$Net" "gives" "[I", Cond.methodLink RX0 79 yX2_beginning, Cond.instanceMethod yX2_beginning, Cond.selects RX2 yX2_beginning yX2_beginning, Cond.initialized RX2, Cond.code yX2_beginning cX2_beginning 2 (some .int), Cond.fieldLink RX2 20 "RegionNets$Steps" "begins" "[I", Cond.methodLink RX0 88 yX0_behind, Cond.instanceMethod yX0_behind, Cond.selects RX0 yX0_behind yX0_behind, Cond.code yX0_behind cX0_behind 3 (some .int), Cond.methodLink RX0 91 yX0_keepNew, Cond.instanceMethod yX0_keepNew, Cond.selects RX0 yX0_keepNew yX0_keepNew, Cond.code yX0_keepNew cX0_keepNew 3 none]
def wsX3_markingCount : List Cond := .code yX3_markingCount cX3_markingCount 1 (some .int) :: ((wsX3_markingCount_r1 ++ wsX3_markingCount_r2) ++ wsX30 ++ wsX00 ++ wsX20 ++ (vx_atS RX3 42 "java/lang/IllegalStateException" ["java/lang/RuntimeException", "java/lang/Exception"]).filter goodWord)
def wsX3_markingAt_r1 : List Cond := [Cond.classLink RX3 147 "java/lang/IndexOutOfBoundsException", Cond.initialized "java/lang/IndexOutOfBoundsException", Cond.fieldLink RX3 30 "RegionNets" "net" "LRegionNets$Net;", Cond.methodLink RX3 144 yX3_needNet, Cond.instanceMethod yX3_needNet, Cond.selects RX3 yX3_needNet yX3_needNet, Cond.initialized RX3, Cond.code yX3_needNet cX3_needNet 1 none, Cond.classLink RX3 38 "java/lang/IllegalStateException", Cond.initialized "java/lang/IllegalStateException", Cond.methodLink RX3 168 yX0_markingsFound, Cond.instanceMethod yX0_markingsFound, Cond.selects RX0 yX0_markingsFound yX0_markingsFound, Cond.initialized RX0, Cond.code yX0_markingsFound cX0_markingsFound 1 (some .int), Cond.fieldLink RX0 47 "RegionNets$Net" "found" "I", Cond.methodLink RX0 82 yX0_findMarkings, Cond.instanceMethod yX0_findMarkings, Cond.selects RX0 yX0_findMarkings yX0_findMarkings, Cond.code yX0_findMarkings cX0_findMarkings 3 none, Cond.fieldLink RX0 29 "RegionNets$Net" "markings" "[I", Cond.fieldLink RX0 43 "RegionNets$Net" "first" "I", Cond.methodLink RX0 85 yX0_canFire, Cond.instanceMethod yX0_canFire]
def wsX3_markingAt_r2 : List Cond := [Cond.selects RX0 yX0_canFire yX0_canFire, Cond.code yX0_canFire cX0_canFire 3 (some .boolean), Cond.fieldLink RX0 9 "RegionNets$Net" "steps" "LRegionNets$Steps;", Cond.fieldLink RX0 23 "RegionNets$Net" "takes" "[I", Cond.fieldLink RX0 26 "RegionNets$Net" "gives" "[I", Cond.methodLink RX0 79 yX2_beginning, Cond.instanceMethod yX2_beginning, Cond.selects RX2 yX2_beginning yX2_beginning, Cond.initialized RX2, Cond.code yX2_beginning cX2_beginning 2 (some .int), Cond.fieldLink RX2 20 "RegionNets$Steps" "begins" "[I", Cond.methodLink RX0 88 yX0_behind, Cond.instanceMethod yX0_behind, Cond.selects RX0 yX0_behind yX0_behind, Cond.code yX0_behind cX0_behind 3 (some .int), Cond.methodLink RX0 91 yX0_keepNew, Cond.instanceMethod yX0_keepNew, Cond.selects RX0 yX0_keepNew yX0_keepNew, Cond.code yX0_keepNew cX0_keepNew 3 none, Cond.methodLink RX3 173 yX0_markingFound, Cond.instanceMethod yX0_markingFound, Cond.selects RX0 yX0_markingFound yX0_markingFound, Cond.code yX0_markingFound cX0_markingFound 2 (some .int)]
def wsX3_markingAt : List Cond := .code yX3_markingAt cX3_markingAt 2 (some .int) :: ((wsX3_markingAt_r1 ++ wsX3_markingAt_r2) ++ wsX30 ++ wsX00 ++ wsX20 ++ (vx_atS RX3 151 "java/lang/IndexOutOfBoundsException" ["java/lang/RuntimeException", "java/lang/Exception"]).filter goodWord ++ (vx_atS RX3 42 "java/lang/IllegalStateException" ["java/lang/RuntimeException", "java/lang/Exception"]).filter goodWord)
def wsX3_isFaithful_r1 : List Cond := [Cond.fieldLink RX3 30 "RegionNets" "net" "LRegionNets$Net;", Cond.methodLink RX3 144 yX3_needNet, Cond.instanceMethod yX3_needNet, Cond.selects RX3 yX3_needNet yX3_needNet, Cond.initialized RX3, Cond.code yX3_needNet cX3_needNet 1 none, Cond.classLink RX3 38 "java/lang/IllegalStateException", Cond.initialized "java/lang/IllegalStateException", Cond.methodLink RX3 176 yX0_behavesLikeSystem, Cond.instanceMethod yX0_behavesLikeSystem, Cond.selects RX0 yX0_behavesLikeSystem yX0_behavesLikeSystem, Cond.initialized RX0, Cond.code yX0_behavesLikeSystem cX0_behavesLikeSystem 3 (some .boolean), Cond.fieldLink RX0 9 "RegionNets$Net" "steps" "LRegionNets$Steps;", Cond.methodLink RX0 95 yX2_reachedStates, Cond.instanceMethod yX2_reachedStates, Cond.selects RX2 yX2_reachedStates yX2_reachedStates, Cond.initialized RX2, Cond.code yX2_reachedStates cX2_reachedStates 3 (some .int), Cond.fieldLink RX2 9 "RegionNets$Steps" "states" "I", Cond.methodLink RX2 62 yX2_nextStates, Cond.instanceMethod yX2_nextStates, Cond.selects RX2 yX2_nextStates yX2_nextStates, Cond.code yX2_nextStates cX2_nextStates 6 (some .int)]
def wsX3_isFaithful_r2 : List Cond := [Cond.fieldLink RX2 17 "RegionNets$Steps" "ends" "[[I", Cond.static yX3_has, Cond.code yX3_has cX3_has 2 (some .boolean), Cond.methodLink RX0 101 yX0_isMatched, Cond.instanceMethod yX0_isMatched, Cond.selects RX0 yX0_isMatched yX0_isMatched, Cond.code yX0_isMatched cX0_isMatched 6 (some .boolean), Cond.methodLink RX0 39 yX0_placesWith, Cond.instanceMethod yX0_placesWith, Cond.selects RX0 yX0_placesWith yX0_placesWith, Cond.code yX0_placesWith cX0_placesWith 4 (some .int), Cond.fieldLink RX0 54 "RegionNets$Net" "places" "I", Cond.fieldLink RX0 19 "RegionNets$Net" "placeSets" "[I", Cond.methodLink RX0 104 yX2_end, Cond.instanceMethod yX2_end, Cond.selects RX2 yX2_end yX2_end, Cond.code yX2_end cX2_end 3 (some .int), Cond.methodLink RX0 85 yX0_canFire, Cond.instanceMethod yX0_canFire, Cond.selects RX0 yX0_canFire yX0_canFire, Cond.code yX0_canFire cX0_canFire 3 (some .boolean), Cond.fieldLink RX0 23 "RegionNets$Net" "takes" "[I", Cond.fieldLink RX0 26 "RegionNets$Net" "gives" "[I", Cond.methodLink RX0 79 yX2_beginning]
def wsX3_isFaithful_r3 : List Cond := [Cond.instanceMethod yX2_beginning, Cond.selects RX2 yX2_beginning yX2_beginning, Cond.code yX2_beginning cX2_beginning 2 (some .int), Cond.fieldLink RX2 20 "RegionNets$Steps" "begins" "[I"]
def wsX3_isFaithful : List Cond := .code yX3_isFaithful cX3_isFaithful 1 (some .boolean) :: ((wsX3_isFaithful_r1 ++ (wsX3_isFaithful_r2 ++ wsX3_isFaithful_r3)) ++ wsX30 ++ wsX00 ++ wsX20 ++ (vx_atS RX3 42 "java/lang/IllegalStateException" ["java/lang/RuntimeException", "java/lang/Exception"]).filter goodWord)
def wsX3_mixed : List Cond := .code yX3_mixed cX3_mixed 3 (some .long) :: ([.constantLong RX3 186 (31)])
def wsX3_digest_r1 : List Cond := [Cond.constantLong RX3 180 (151), Cond.fieldLink RX3 10 "RegionNets" "steps" "LRegionNets$Steps;", Cond.fieldLink RX3 21 "RegionNets" "regions" "LRegionNets$Regions;", Cond.fieldLink RX3 30 "RegionNets" "net" "LRegionNets$Net;", Cond.methodLink RX3 182 yX3_mixed, Cond.static yX3_mixed, Cond.initialized RX3, Cond.code yX3_mixed cX3_mixed 3 (some .long), Cond.constantLong RX3 186 (31), Cond.methodLink RX3 55 yX2_end, Cond.instanceMethod yX2_end, Cond.selects RX2 yX2_end yX2_end, Cond.initialized RX2, Cond.code yX2_end cX2_end 3 (some .int), Cond.fieldLink RX2 17 "RegionNets$Steps" "ends" "[[I", Cond.methodLink RX3 95 yX1_count, Cond.instanceMethod yX1_count, Cond.selects RX1 yX1_count yX1_count, Cond.initialized RX1, Cond.code yX1_count cX1_count 1 (some .int), Cond.fieldLink RX1 29 "RegionNets$Regions" "known" "Z", Cond.fieldLink RX1 36 "RegionNets$Regions" "count" "I", Cond.methodLink RX1 33 yX1_search, Cond.instanceMethod yX1_search]
def wsX3_digest_r2 : List Cond := [Cond.selects RX1 yX1_search yX1_search, Cond.code yX1_search cX1_search 3 none, Cond.fieldLink RX1 9 "RegionNets$Regions" "steps" "LRegionNets$Steps;", Cond.fieldLink RX1 15 "RegionNets$Regions" "sets" "[I", Cond.methodLink RX1 19 yX2_all, Cond.instanceMethod yX2_all, Cond.selects RX2 yX2_all yX2_all, Cond.code yX2_all cX2_all 1 (some .int), Cond.fieldLink RX2 9 "RegionNets$Steps" "states" "I", Cond.methodLink RX1 25 yX2_firstMixed, Cond.instanceMethod yX2_firstMixed, Cond.selects RX2 yX2_firstMixed yX2_firstMixed, Cond.code yX2_firstMixed cX2_firstMixed 3 (some .int), Cond.methodLink RX2 49 yX2_way, Cond.instanceMethod yX2_way, Cond.selects RX2 yX2_way yX2_way, Cond.code yX2_way cX2_way 6 (some .int), Cond.fieldLink RX2 20 "RegionNets$Steps" "begins" "[I", Cond.methodLink RX2 46 yX2_sourcesOf, Cond.instanceMethod yX2_sourcesOf, Cond.selects RX2 yX2_sourcesOf yX2_sourcesOf, Cond.code yX2_sourcesOf cX2_sourcesOf 3 (some .int), Cond.fieldLink RX2 24 "RegionNets$Steps" "lowSources" "[[I", Cond.fieldLink RX2 27 "RegionNets$Steps" "highSources" "[[I"]
def wsX3_digest_r3 : List Cond := [Cond.methodLink RX3 101 yX1_at, Cond.instanceMethod yX1_at, Cond.selects RX1 yX1_at yX1_at, Cond.code yX1_at cX1_at 2 (some .int)]
def wsX3_digest : List Cond := .code yX3_digest cX3_digest 5 (some .long) :: ((wsX3_digest_r1 ++ (wsX3_digest_r2 ++ wsX3_digest_r3)) ++ wsX30 ++ wsX20 ++ wsX00 ++ wsX10)
def wsX4_init : List Cond := .code yX4_init cX4_init 2 none :: ([.methodLink RX4 3 objectInit, .instanceMethod objectInit, .code objectInit ⟨#[0xb1]⟩ 1 none, .fieldLink RX4 9 "RegionNetsModel" "states" "I", .arrayClass .int, .fieldLink RX4 13 "RegionNetsModel" "targets" "[I", .fieldLink RX4 17 "RegionNetsModel" "sets" "[I", .fieldLink RX4 20 "RegionNetsModel" "placeSets" "[I", .fieldLink RX4 23 "RegionNetsModel" "found" "[I"] ++ wsX40)
def wsX4_thrown : List Cond := .code yX4_thrown cX4_thrown 1 (some .int) :: ([.fieldLink RX4 26 "RegionNetsModel" "thrown" "I"] ++ wsX40)
def wsX4_fail : List Cond := .code yX4_fail cX4_fail 2 (some .int) :: ([.fieldLink RX4 26 "RegionNetsModel" "thrown" "I"] ++ wsX40)
def wsX4_isState : List Cond := .code yX4_isState cX4_isState 2 (some .boolean) :: ([.fieldLink RX4 9 "RegionNetsModel" "states" "I"] ++ wsX40)
def wsX4_isLabel : List Cond := .code yX4_isLabel cX4_isLabel 1 (some .boolean) :: ([])
def wsX4_isSet : List Cond := .code yX4_isSet cX4_isSet 2 (some .boolean) :: ([.fieldLink RX4 9 "RegionNetsModel" "states" "I"] ++ wsX40)
def wsX4_has : List Cond := .code yX4_has cX4_has 2 (some .boolean) :: ([])
def wsX4_to : List Cond := .code yX4_to cX4_to 3 (some .int) :: ([.fieldLink RX4 13 "RegionNetsModel" "targets" "[I"] ++ wsX40)
def wsX4_change : List Cond := .code yX4_change cX4_change 1 none :: ([.fieldLink RX4 29 "RegionNetsModel" "isKnown" "Z", .fieldLink RX4 33 "RegionNetsModel" "isNet" "Z"] ++ wsX40)
def wsX4_addState : List Cond := .code yX4_addState cX4_addState 1 (some .int) :: ([.fieldLink RX4 26 "RegionNetsModel" "thrown" "I", .fieldLink RX4 9 "RegionNetsModel" "states" "I", .methodLink RX4 36 yX4_fail, .instanceMethod yX4_fail, .selects RX4 yX4_fail yX4_fail, .initialized RX4, .code yX4_fail cX4_fail 2 (some .int), .methodLink RX4 40 yX4_change, .instanceMethod yX4_change, .selects RX4 yX4_change yX4_change, .code yX4_change cX4_change 1 none, .fieldLink RX4 29 "RegionNetsModel" "isKnown" "Z", .fieldLink RX4 33 "RegionNetsModel" "isNet" "Z"] ++ wsX40)
def wsX4_step_r1 : List Cond := [Cond.fieldLink RX4 26 "RegionNetsModel" "thrown" "I", Cond.fieldLink RX4 13 "RegionNetsModel" "targets" "[I", Cond.methodLink RX4 43 yX4_isState, Cond.instanceMethod yX4_isState, Cond.selects RX4 yX4_isState yX4_isState, Cond.initialized RX4, Cond.code yX4_isState cX4_isState 2 (some .boolean), Cond.fieldLink RX4 9 "RegionNetsModel" "states" "I", Cond.methodLink RX4 47 yX4_isLabel, Cond.static yX4_isLabel, Cond.code yX4_isLabel cX4_isLabel 1 (some .boolean), Cond.methodLink RX4 36 yX4_fail, Cond.instanceMethod yX4_fail, Cond.selects RX4 yX4_fail yX4_fail, Cond.code yX4_fail cX4_fail 2 (some .int), Cond.methodLink RX4 50 yX4_to, Cond.instanceMethod yX4_to, Cond.selects RX4 yX4_to yX4_to, Cond.code yX4_to cX4_to 3 (some .int), Cond.methodLink RX4 40 yX4_change, Cond.instanceMethod yX4_change, Cond.selects RX4 yX4_change yX4_change, Cond.code yX4_change cX4_change 1 none, Cond.fieldLink RX4 29 "RegionNetsModel" "isKnown" "Z"]
def wsX4_step_r2 : List Cond := [Cond.fieldLink RX4 33 "RegionNetsModel" "isNet" "Z"]
def wsX4_step : List Cond := .code yX4_step cX4_step 5 (some .int) :: ((wsX4_step_r1 ++ wsX4_step_r2) ++ wsX40)
def wsX4_unstep : List Cond := .code yX4_unstep cX4_unstep 4 (some .boolean) :: ([.fieldLink RX4 26 "RegionNetsModel" "thrown" "I", .fieldLink RX4 13 "RegionNetsModel" "targets" "[I", .methodLink RX4 43 yX4_isState, .instanceMethod yX4_isState, .selects RX4 yX4_isState yX4_isState, .initialized RX4, .code yX4_isState cX4_isState 2 (some .boolean), .fieldLink RX4 9 "RegionNetsModel" "states" "I", .methodLink RX4 47 yX4_isLabel, .static yX4_isLabel, .code yX4_isLabel cX4_isLabel 1 (some .boolean), .methodLink RX4 50 yX4_to, .instanceMethod yX4_to, .selects RX4 yX4_to yX4_to, .code yX4_to cX4_to 3 (some .int), .methodLink RX4 40 yX4_change, .instanceMethod yX4_change, .selects RX4 yX4_change yX4_change, .code yX4_change cX4_change 1 none, .fieldLink RX4 29 "RegionNetsModel" "isKnown" "Z", .fieldLink RX4 33 "RegionNetsModel" "isNet" "Z"] ++ wsX40)
def wsX4_rename : List Cond := .code yX4_rename cX4_rename 5 (some .int) :: ([.fieldLink RX4 26 "RegionNetsModel" "thrown" "I", .fieldLink RX4 9 "RegionNetsModel" "states" "I", .fieldLink RX4 13 "RegionNetsModel" "targets" "[I", .methodLink RX4 47 yX4_isLabel, .static yX4_isLabel, .initialized RX4, .code yX4_isLabel cX4_isLabel 1 (some .boolean), .methodLink RX4 36 yX4_fail, .instanceMethod yX4_fail, .selects RX4 yX4_fail yX4_fail, .code yX4_fail cX4_fail 2 (some .int), .methodLink RX4 50 yX4_to, .instanceMethod yX4_to, .selects RX4 yX4_to yX4_to, .code yX4_to cX4_to 3 (some .int), .methodLink RX4 40 yX4_change, .instanceMethod yX4_change, .selects RX4 yX4_change yX4_change, .code yX4_change cX4_change 1 none, .fieldLink RX4 29 "RegionNetsModel" "isKnown" "Z", .fieldLink RX4 33 "RegionNetsModel" "isNet" "Z"] ++ wsX40)
def wsX4_stateCount : List Cond := .code yX4_stateCount cX4_stateCount 1 (some .int) :: ([.fieldLink RX4 26 "RegionNetsModel" "thrown" "I", .fieldLink RX4 9 "RegionNetsModel" "states" "I"] ++ wsX40)
def wsX4_target : List Cond := .code yX4_target cX4_target 3 (some .int) :: ([.fieldLink RX4 26 "RegionNetsModel" "thrown" "I", .methodLink RX4 43 yX4_isState, .instanceMethod yX4_isState, .selects RX4 yX4_isState yX4_isState, .initialized RX4, .code yX4_isState cX4_isState 2 (some .boolean), .fieldLink RX4 9 "RegionNetsModel" "states" "I", .methodLink RX4 47 yX4_isLabel, .static yX4_isLabel, .code yX4_isLabel cX4_isLabel 1 (some .boolean), .methodLink RX4 50 yX4_to, .instanceMethod yX4_to, .selects RX4 yX4_to yX4_to, .code yX4_to cX4_to 3 (some .int), .fieldLink RX4 13 "RegionNetsModel" "targets" "[I", .methodLink RX4 36 yX4_fail, .instanceMethod yX4_fail, .selects RX4 yX4_fail yX4_fail, .code yX4_fail cX4_fail 2 (some .int)] ++ wsX40)
def wsX4_enabled : List Cond := .code yX4_enabled cX4_enabled 4 (some .int) :: ([.fieldLink RX4 26 "RegionNetsModel" "thrown" "I", .methodLink RX4 43 yX4_isState, .instanceMethod yX4_isState, .selects RX4 yX4_isState yX4_isState, .initialized RX4, .code yX4_isState cX4_isState 2 (some .boolean), .fieldLink RX4 9 "RegionNetsModel" "states" "I", .methodLink RX4 36 yX4_fail, .instanceMethod yX4_fail, .selects RX4 yX4_fail yX4_fail, .code yX4_fail cX4_fail 2 (some .int), .methodLink RX4 50 yX4_to, .instanceMethod yX4_to, .selects RX4 yX4_to yX4_to, .code yX4_to cX4_to 3 (some .int), .fieldLink RX4 13 "RegionNetsModel" "targets" "[I"] ++ wsX40)
def wsX4_goOn : List Cond := .code yX4_goOn cX4_goOn 5 (some .int) :: ([.fieldLink RX4 9 "RegionNetsModel" "states" "I", .methodLink RX4 54 yX4_has, .static yX4_has, .initialized RX4, .code yX4_has cX4_has 2 (some .boolean), .methodLink RX4 50 yX4_to, .instanceMethod yX4_to, .selects RX4 yX4_to yX4_to, .code yX4_to cX4_to 3 (some .int), .fieldLink RX4 13 "RegionNetsModel" "targets" "[I"] ++ wsX40)
def wsX4_reached : List Cond := .code yX4_reached cX4_reached 2 (some .int) :: ([.fieldLink RX4 26 "RegionNetsModel" "thrown" "I", .methodLink RX4 58 yX4_goOn, .instanceMethod yX4_goOn, .selects RX4 yX4_goOn yX4_goOn, .initialized RX4, .code yX4_goOn cX4_goOn 5 (some .int), .fieldLink RX4 9 "RegionNetsModel" "states" "I", .methodLink RX4 54 yX4_has, .static yX4_has, .code yX4_has cX4_has 2 (some .boolean), .methodLink RX4 50 yX4_to, .instanceMethod yX4_to, .selects RX4 yX4_to yX4_to, .code yX4_to cX4_to 3 (some .int), .fieldLink RX4 13 "RegionNetsModel" "targets" "[I"] ++ wsX40)
def wsX4_distance : List Cond := .code yX4_distance cX4_distance 4 (some .int) :: ([.fieldLink RX4 26 "RegionNetsModel" "thrown" "I", .methodLink RX4 43 yX4_isState, .instanceMethod yX4_isState, .selects RX4 yX4_isState yX4_isState, .initialized RX4, .code yX4_isState cX4_isState 2 (some .boolean), .fieldLink RX4 9 "RegionNetsModel" "states" "I", .methodLink RX4 36 yX4_fail, .instanceMethod yX4_fail, .selects RX4 yX4_fail yX4_fail, .code yX4_fail cX4_fail 2 (some .int), .methodLink RX4 54 yX4_has, .static yX4_has, .code yX4_has cX4_has 2 (some .boolean), .methodLink RX4 58 yX4_goOn, .instanceMethod yX4_goOn, .selects RX4 yX4_goOn yX4_goOn, .code yX4_goOn cX4_goOn 5 (some .int), .methodLink RX4 50 yX4_to, .instanceMethod yX4_to, .selects RX4 yX4_to yX4_to, .code yX4_to cX4_to 3 (some .int), .fieldLink RX4 13 "RegionNetsModel" "targets" "[I"] ++ wsX40)
def wsX4_way : List Cond := .code yX4_way cX4_way 8 (some .int) :: ([.fieldLink RX4 9 "RegionNetsModel" "states" "I", .methodLink RX4 50 yX4_to, .instanceMethod yX4_to, .selects RX4 yX4_to yX4_to, .initialized RX4, .code yX4_to cX4_to 3 (some .int), .fieldLink RX4 13 "RegionNetsModel" "targets" "[I", .methodLink RX4 54 yX4_has, .static yX4_has, .code yX4_has cX4_has 2 (some .boolean)] ++ wsX40)
def wsX4_mixed : List Cond := .code yX4_mixed cX4_mixed 3 (some .int) :: ([.methodLink RX4 61 yX4_way, .instanceMethod yX4_way, .selects RX4 yX4_way yX4_way, .initialized RX4, .code yX4_way cX4_way 8 (some .int), .fieldLink RX4 9 "RegionNetsModel" "states" "I", .methodLink RX4 50 yX4_to, .instanceMethod yX4_to, .selects RX4 yX4_to yX4_to, .code yX4_to cX4_to 3 (some .int), .fieldLink RX4 13 "RegionNetsModel" "targets" "[I", .methodLink RX4 54 yX4_has, .static yX4_has, .code yX4_has cX4_has 2 (some .boolean)] ++ wsX40)
def wsX4_isProper : List Cond := .code yX4_isProper cX4_isProper 2 (some .boolean) :: ([.fieldLink RX4 9 "RegionNetsModel" "states" "I", .methodLink RX4 64 yX4_mixed, .instanceMethod yX4_mixed, .selects RX4 yX4_mixed yX4_mixed, .initialized RX4, .code yX4_mixed cX4_mixed 3 (some .int), .methodLink RX4 61 yX4_way, .instanceMethod yX4_way, .selects RX4 yX4_way yX4_way, .code yX4_way cX4_way 8 (some .int), .methodLink RX4 50 yX4_to, .instanceMethod yX4_to, .selects RX4 yX4_to yX4_to, .code yX4_to cX4_to 3 (some .int), .fieldLink RX4 13 "RegionNetsModel" "targets" "[I", .methodLink RX4 54 yX4_has, .static yX4_has, .code yX4_has cX4_has 2 (some .boolean)] ++ wsX40)
def wsX4_know_r1 : List Cond := [Cond.fieldLink RX4 29 "RegionNetsModel" "isKnown" "Z", Cond.fieldLink RX4 67 "RegionNetsModel" "regions" "I", Cond.fieldLink RX4 9 "RegionNetsModel" "states" "I", Cond.fieldLink RX4 17 "RegionNetsModel" "sets" "[I", Cond.methodLink RX4 70 yX4_isProper, Cond.instanceMethod yX4_isProper, Cond.selects RX4 yX4_isProper yX4_isProper, Cond.initialized RX4, Cond.code yX4_isProper cX4_isProper 2 (some .boolean), Cond.methodLink RX4 64 yX4_mixed, Cond.instanceMethod yX4_mixed, Cond.selects RX4 yX4_mixed yX4_mixed, Cond.code yX4_mixed cX4_mixed 3 (some .int), Cond.methodLink RX4 61 yX4_way, Cond.instanceMethod yX4_way, Cond.selects RX4 yX4_way yX4_way, Cond.code yX4_way cX4_way 8 (some .int), Cond.methodLink RX4 50 yX4_to, Cond.instanceMethod yX4_to, Cond.selects RX4 yX4_to yX4_to, Cond.code yX4_to cX4_to 3 (some .int), Cond.fieldLink RX4 13 "RegionNetsModel" "targets" "[I", Cond.methodLink RX4 54 yX4_has, Cond.static yX4_has]
def wsX4_know_r2 : List Cond := [Cond.code yX4_has cX4_has 2 (some .boolean)]
def wsX4_know : List Cond := .code yX4_know cX4_know 2 none :: ((wsX4_know_r1 ++ wsX4_know_r2) ++ wsX40)
def wsX4_crossing_r1 : List Cond := [Cond.fieldLink RX4 26 "RegionNetsModel" "thrown" "I", Cond.methodLink RX4 73 yX4_isSet, Cond.instanceMethod yX4_isSet, Cond.selects RX4 yX4_isSet yX4_isSet, Cond.initialized RX4, Cond.code yX4_isSet cX4_isSet 2 (some .boolean), Cond.fieldLink RX4 9 "RegionNetsModel" "states" "I", Cond.methodLink RX4 36 yX4_fail, Cond.instanceMethod yX4_fail, Cond.selects RX4 yX4_fail yX4_fail, Cond.code yX4_fail cX4_fail 2 (some .int), Cond.methodLink RX4 47 yX4_isLabel, Cond.static yX4_isLabel, Cond.code yX4_isLabel cX4_isLabel 1 (some .boolean), Cond.methodLink RX4 61 yX4_way, Cond.instanceMethod yX4_way, Cond.selects RX4 yX4_way yX4_way, Cond.code yX4_way cX4_way 8 (some .int), Cond.methodLink RX4 50 yX4_to, Cond.instanceMethod yX4_to, Cond.selects RX4 yX4_to yX4_to, Cond.code yX4_to cX4_to 3 (some .int), Cond.fieldLink RX4 13 "RegionNetsModel" "targets" "[I", Cond.methodLink RX4 54 yX4_has]
def wsX4_crossing_r2 : List Cond := [Cond.static yX4_has, Cond.code yX4_has cX4_has 2 (some .boolean)]
def wsX4_crossing : List Cond := .code yX4_crossing cX4_crossing 3 (some .int) :: ((wsX4_crossing_r1 ++ wsX4_crossing_r2) ++ wsX40)
def wsX4_isRegion_r1 : List Cond := [Cond.fieldLink RX4 26 "RegionNetsModel" "thrown" "I", Cond.methodLink RX4 73 yX4_isSet, Cond.instanceMethod yX4_isSet, Cond.selects RX4 yX4_isSet yX4_isSet, Cond.initialized RX4, Cond.code yX4_isSet cX4_isSet 2 (some .boolean), Cond.fieldLink RX4 9 "RegionNetsModel" "states" "I", Cond.methodLink RX4 70 yX4_isProper, Cond.instanceMethod yX4_isProper, Cond.selects RX4 yX4_isProper yX4_isProper, Cond.code yX4_isProper cX4_isProper 2 (some .boolean), Cond.methodLink RX4 64 yX4_mixed, Cond.instanceMethod yX4_mixed, Cond.selects RX4 yX4_mixed yX4_mixed, Cond.code yX4_mixed cX4_mixed 3 (some .int), Cond.methodLink RX4 61 yX4_way, Cond.instanceMethod yX4_way, Cond.selects RX4 yX4_way yX4_way, Cond.code yX4_way cX4_way 8 (some .int), Cond.methodLink RX4 50 yX4_to, Cond.instanceMethod yX4_to, Cond.selects RX4 yX4_to yX4_to, Cond.code yX4_to cX4_to 3 (some .int), Cond.fieldLink RX4 13 "RegionNetsModel" "targets" "[I"]
def wsX4_isRegion_r2 : List Cond := [Cond.methodLink RX4 54 yX4_has, Cond.static yX4_has, Cond.code yX4_has cX4_has 2 (some .boolean)]
def wsX4_isRegion : List Cond := .code yX4_isRegion cX4_isRegion 2 (some .boolean) :: ((wsX4_isRegion_r1 ++ wsX4_isRegion_r2) ++ wsX40)
def wsX4_regionCount_r1 : List Cond := [Cond.fieldLink RX4 26 "RegionNetsModel" "thrown" "I", Cond.fieldLink RX4 67 "RegionNetsModel" "regions" "I", Cond.methodLink RX4 76 yX4_know, Cond.instanceMethod yX4_know, Cond.selects RX4 yX4_know yX4_know, Cond.initialized RX4, Cond.code yX4_know cX4_know 2 none, Cond.fieldLink RX4 29 "RegionNetsModel" "isKnown" "Z", Cond.fieldLink RX4 9 "RegionNetsModel" "states" "I", Cond.fieldLink RX4 17 "RegionNetsModel" "sets" "[I", Cond.methodLink RX4 70 yX4_isProper, Cond.instanceMethod yX4_isProper, Cond.selects RX4 yX4_isProper yX4_isProper, Cond.code yX4_isProper cX4_isProper 2 (some .boolean), Cond.methodLink RX4 64 yX4_mixed, Cond.instanceMethod yX4_mixed, Cond.selects RX4 yX4_mixed yX4_mixed, Cond.code yX4_mixed cX4_mixed 3 (some .int), Cond.methodLink RX4 61 yX4_way, Cond.instanceMethod yX4_way, Cond.selects RX4 yX4_way yX4_way, Cond.code yX4_way cX4_way 8 (some .int), Cond.methodLink RX4 50 yX4_to, Cond.instanceMethod yX4_to]
def wsX4_regionCount_r2 : List Cond := [Cond.selects RX4 yX4_to yX4_to, Cond.code yX4_to cX4_to 3 (some .int), Cond.fieldLink RX4 13 "RegionNetsModel" "targets" "[I", Cond.methodLink RX4 54 yX4_has, Cond.static yX4_has, Cond.code yX4_has cX4_has 2 (some .boolean)]
def wsX4_regionCount : List Cond := .code yX4_regionCount cX4_regionCount 1 (some .int) :: ((wsX4_regionCount_r1 ++ wsX4_regionCount_r2) ++ wsX40)
def wsX4_region_r1 : List Cond := [Cond.fieldLink RX4 26 "RegionNetsModel" "thrown" "I", Cond.fieldLink RX4 67 "RegionNetsModel" "regions" "I", Cond.fieldLink RX4 17 "RegionNetsModel" "sets" "[I", Cond.methodLink RX4 76 yX4_know, Cond.instanceMethod yX4_know, Cond.selects RX4 yX4_know yX4_know, Cond.initialized RX4, Cond.code yX4_know cX4_know 2 none, Cond.fieldLink RX4 29 "RegionNetsModel" "isKnown" "Z", Cond.fieldLink RX4 9 "RegionNetsModel" "states" "I", Cond.methodLink RX4 70 yX4_isProper, Cond.instanceMethod yX4_isProper, Cond.selects RX4 yX4_isProper yX4_isProper, Cond.code yX4_isProper cX4_isProper 2 (some .boolean), Cond.methodLink RX4 64 yX4_mixed, Cond.instanceMethod yX4_mixed, Cond.selects RX4 yX4_mixed yX4_mixed, Cond.code yX4_mixed cX4_mixed 3 (some .int), Cond.methodLink RX4 61 yX4_way, Cond.instanceMethod yX4_way, Cond.selects RX4 yX4_way yX4_way, Cond.code yX4_way cX4_way 8 (some .int), Cond.methodLink RX4 50 yX4_to, Cond.instanceMethod yX4_to]
def wsX4_region_r2 : List Cond := [Cond.selects RX4 yX4_to yX4_to, Cond.code yX4_to cX4_to 3 (some .int), Cond.fieldLink RX4 13 "RegionNetsModel" "targets" "[I", Cond.methodLink RX4 54 yX4_has, Cond.static yX4_has, Cond.code yX4_has cX4_has 2 (some .boolean), Cond.methodLink RX4 36 yX4_fail, Cond.instanceMethod yX4_fail, Cond.selects RX4 yX4_fail yX4_fail, Cond.code yX4_fail cX4_fail 2 (some .int)]
def wsX4_region : List Cond := .code yX4_region cX4_region 2 (some .int) :: ((wsX4_region_r1 ++ wsX4_region_r2) ++ wsX40)
def wsX4_isSmallest : List Cond := .code yX4_isSmallest cX4_isSmallest 4 (some .boolean) :: ([.fieldLink RX4 17 "RegionNetsModel" "sets" "[I"] ++ wsX40)
def wsX4_isLeast_r1 : List Cond := [Cond.fieldLink RX4 67 "RegionNetsModel" "regions" "I", Cond.fieldLink RX4 26 "RegionNetsModel" "thrown" "I", Cond.methodLink RX4 76 yX4_know, Cond.instanceMethod yX4_know, Cond.selects RX4 yX4_know yX4_know, Cond.initialized RX4, Cond.code yX4_know cX4_know 2 none, Cond.fieldLink RX4 29 "RegionNetsModel" "isKnown" "Z", Cond.fieldLink RX4 9 "RegionNetsModel" "states" "I", Cond.fieldLink RX4 17 "RegionNetsModel" "sets" "[I", Cond.methodLink RX4 70 yX4_isProper, Cond.instanceMethod yX4_isProper, Cond.selects RX4 yX4_isProper yX4_isProper, Cond.code yX4_isProper cX4_isProper 2 (some .boolean), Cond.methodLink RX4 64 yX4_mixed, Cond.instanceMethod yX4_mixed, Cond.selects RX4 yX4_mixed yX4_mixed, Cond.code yX4_mixed cX4_mixed 3 (some .int), Cond.methodLink RX4 61 yX4_way, Cond.instanceMethod yX4_way, Cond.selects RX4 yX4_way yX4_way, Cond.code yX4_way cX4_way 8 (some .int), Cond.methodLink RX4 50 yX4_to, Cond.instanceMethod yX4_to]
def wsX4_isLeast_r2 : List Cond := [Cond.selects RX4 yX4_to yX4_to, Cond.code yX4_to cX4_to 3 (some .int), Cond.fieldLink RX4 13 "RegionNetsModel" "targets" "[I", Cond.methodLink RX4 54 yX4_has, Cond.static yX4_has, Cond.code yX4_has cX4_has 2 (some .boolean), Cond.methodLink RX4 79 yX4_isSmallest, Cond.instanceMethod yX4_isSmallest, Cond.selects RX4 yX4_isSmallest yX4_isSmallest, Cond.code yX4_isSmallest cX4_isSmallest 4 (some .boolean)]
def wsX4_isLeast : List Cond := .code yX4_isLeast cX4_isLeast 2 (some .boolean) :: ((wsX4_isLeast_r1 ++ wsX4_isLeast_r2) ++ wsX40)
def wsX4_ends : List Cond := .code yX4_ends cX4_ends 5 (some .int) :: ([.fieldLink RX4 9 "RegionNetsModel" "states" "I", .methodLink RX4 50 yX4_to, .instanceMethod yX4_to, .selects RX4 yX4_to yX4_to, .initialized RX4, .code yX4_to cX4_to 3 (some .int), .fieldLink RX4 13 "RegionNetsModel" "targets" "[I"] ++ wsX40)
def wsX4_grow_r1 : List Cond := [Cond.fieldLink RX4 26 "RegionNetsModel" "thrown" "I", Cond.methodLink RX4 73 yX4_isSet, Cond.instanceMethod yX4_isSet, Cond.selects RX4 yX4_isSet yX4_isSet, Cond.initialized RX4, Cond.code yX4_isSet cX4_isSet 2 (some .boolean), Cond.fieldLink RX4 9 "RegionNetsModel" "states" "I", Cond.methodLink RX4 36 yX4_fail, Cond.instanceMethod yX4_fail, Cond.selects RX4 yX4_fail yX4_fail, Cond.code yX4_fail cX4_fail 2 (some .int), Cond.methodLink RX4 64 yX4_mixed, Cond.instanceMethod yX4_mixed, Cond.selects RX4 yX4_mixed yX4_mixed, Cond.code yX4_mixed cX4_mixed 3 (some .int), Cond.methodLink RX4 61 yX4_way, Cond.instanceMethod yX4_way, Cond.selects RX4 yX4_way yX4_way, Cond.code yX4_way cX4_way 8 (some .int), Cond.methodLink RX4 50 yX4_to, Cond.instanceMethod yX4_to, Cond.selects RX4 yX4_to yX4_to, Cond.code yX4_to cX4_to 3 (some .int), Cond.fieldLink RX4 13 "RegionNetsModel" "targets" "[I"]
def wsX4_grow_r2 : List Cond := [Cond.methodLink RX4 54 yX4_has, Cond.static yX4_has, Cond.code yX4_has cX4_has 2 (some .boolean), Cond.methodLink RX4 82 yX4_ends, Cond.instanceMethod yX4_ends, Cond.selects RX4 yX4_ends yX4_ends, Cond.code yX4_ends cX4_ends 5 (some .int)]
def wsX4_grow : List Cond := .code yX4_grow cX4_grow 7 (some .int) :: ((wsX4_grow_r1 ++ wsX4_grow_r2) ++ wsX40)
def wsX4_firstApart_r1 : List Cond := [Cond.fieldLink RX4 67 "RegionNetsModel" "regions" "I", Cond.fieldLink RX4 17 "RegionNetsModel" "sets" "[I", Cond.methodLink RX4 76 yX4_know, Cond.instanceMethod yX4_know, Cond.selects RX4 yX4_know yX4_know, Cond.initialized RX4, Cond.code yX4_know cX4_know 2 none, Cond.fieldLink RX4 29 "RegionNetsModel" "isKnown" "Z", Cond.fieldLink RX4 9 "RegionNetsModel" "states" "I", Cond.methodLink RX4 70 yX4_isProper, Cond.instanceMethod yX4_isProper, Cond.selects RX4 yX4_isProper yX4_isProper, Cond.code yX4_isProper cX4_isProper 2 (some .boolean), Cond.methodLink RX4 64 yX4_mixed, Cond.instanceMethod yX4_mixed, Cond.selects RX4 yX4_mixed yX4_mixed, Cond.code yX4_mixed cX4_mixed 3 (some .int), Cond.methodLink RX4 61 yX4_way, Cond.instanceMethod yX4_way, Cond.selects RX4 yX4_way yX4_way, Cond.code yX4_way cX4_way 8 (some .int), Cond.methodLink RX4 50 yX4_to, Cond.instanceMethod yX4_to, Cond.selects RX4 yX4_to yX4_to]
def wsX4_firstApart_r2 : List Cond := [Cond.code yX4_to cX4_to 3 (some .int), Cond.fieldLink RX4 13 "RegionNetsModel" "targets" "[I", Cond.methodLink RX4 54 yX4_has, Cond.static yX4_has, Cond.code yX4_has cX4_has 2 (some .boolean)]
def wsX4_firstApart : List Cond := .code yX4_firstApart cX4_firstApart 4 (some .int) :: ((wsX4_firstApart_r1 ++ wsX4_firstApart_r2) ++ wsX40)
def wsX4_apart_r1 : List Cond := [Cond.fieldLink RX4 26 "RegionNetsModel" "thrown" "I", Cond.methodLink RX4 43 yX4_isState, Cond.instanceMethod yX4_isState, Cond.selects RX4 yX4_isState yX4_isState, Cond.initialized RX4, Cond.code yX4_isState cX4_isState 2 (some .boolean), Cond.fieldLink RX4 9 "RegionNetsModel" "states" "I", Cond.methodLink RX4 86 yX4_firstApart, Cond.instanceMethod yX4_firstApart, Cond.selects RX4 yX4_firstApart yX4_firstApart, Cond.code yX4_firstApart cX4_firstApart 4 (some .int), Cond.fieldLink RX4 67 "RegionNetsModel" "regions" "I", Cond.fieldLink RX4 17 "RegionNetsModel" "sets" "[I", Cond.methodLink RX4 76 yX4_know, Cond.instanceMethod yX4_know, Cond.selects RX4 yX4_know yX4_know, Cond.code yX4_know cX4_know 2 none, Cond.fieldLink RX4 29 "RegionNetsModel" "isKnown" "Z", Cond.methodLink RX4 70 yX4_isProper, Cond.instanceMethod yX4_isProper, Cond.selects RX4 yX4_isProper yX4_isProper, Cond.code yX4_isProper cX4_isProper 2 (some .boolean), Cond.methodLink RX4 64 yX4_mixed, Cond.instanceMethod yX4_mixed]
def wsX4_apart_r2 : List Cond := [Cond.selects RX4 yX4_mixed yX4_mixed, Cond.code yX4_mixed cX4_mixed 3 (some .int), Cond.methodLink RX4 61 yX4_way, Cond.instanceMethod yX4_way, Cond.selects RX4 yX4_way yX4_way, Cond.code yX4_way cX4_way 8 (some .int), Cond.methodLink RX4 50 yX4_to, Cond.instanceMethod yX4_to, Cond.selects RX4 yX4_to yX4_to, Cond.code yX4_to cX4_to 3 (some .int), Cond.fieldLink RX4 13 "RegionNetsModel" "targets" "[I", Cond.methodLink RX4 54 yX4_has, Cond.static yX4_has, Cond.code yX4_has cX4_has 2 (some .boolean), Cond.methodLink RX4 36 yX4_fail, Cond.instanceMethod yX4_fail, Cond.selects RX4 yX4_fail yX4_fail, Cond.code yX4_fail cX4_fail 2 (some .int)]
def wsX4_apart : List Cond := .code yX4_apart cX4_apart 3 (some .int) :: ((wsX4_apart_r1 ++ wsX4_apart_r2) ++ wsX40)
def wsX4_firstPreventer_r1 : List Cond := [Cond.fieldLink RX4 67 "RegionNetsModel" "regions" "I", Cond.fieldLink RX4 17 "RegionNetsModel" "sets" "[I", Cond.methodLink RX4 76 yX4_know, Cond.instanceMethod yX4_know, Cond.selects RX4 yX4_know yX4_know, Cond.initialized RX4, Cond.code yX4_know cX4_know 2 none, Cond.fieldLink RX4 29 "RegionNetsModel" "isKnown" "Z", Cond.fieldLink RX4 9 "RegionNetsModel" "states" "I", Cond.methodLink RX4 70 yX4_isProper, Cond.instanceMethod yX4_isProper, Cond.selects RX4 yX4_isProper yX4_isProper, Cond.code yX4_isProper cX4_isProper 2 (some .boolean), Cond.methodLink RX4 64 yX4_mixed, Cond.instanceMethod yX4_mixed, Cond.selects RX4 yX4_mixed yX4_mixed, Cond.code yX4_mixed cX4_mixed 3 (some .int), Cond.methodLink RX4 61 yX4_way, Cond.instanceMethod yX4_way, Cond.selects RX4 yX4_way yX4_way, Cond.code yX4_way cX4_way 8 (some .int), Cond.methodLink RX4 50 yX4_to, Cond.instanceMethod yX4_to, Cond.selects RX4 yX4_to yX4_to]
def wsX4_firstPreventer_r2 : List Cond := [Cond.code yX4_to cX4_to 3 (some .int), Cond.fieldLink RX4 13 "RegionNetsModel" "targets" "[I", Cond.methodLink RX4 54 yX4_has, Cond.static yX4_has, Cond.code yX4_has cX4_has 2 (some .boolean)]
def wsX4_firstPreventer : List Cond := .code yX4_firstPreventer cX4_firstPreventer 5 (some .int) :: ((wsX4_firstPreventer_r1 ++ wsX4_firstPreventer_r2) ++ wsX40)
def wsX4_preventer_r1 : List Cond := [Cond.fieldLink RX4 26 "RegionNetsModel" "thrown" "I", Cond.methodLink RX4 43 yX4_isState, Cond.instanceMethod yX4_isState, Cond.selects RX4 yX4_isState yX4_isState, Cond.initialized RX4, Cond.code yX4_isState cX4_isState 2 (some .boolean), Cond.fieldLink RX4 9 "RegionNetsModel" "states" "I", Cond.methodLink RX4 47 yX4_isLabel, Cond.static yX4_isLabel, Cond.code yX4_isLabel cX4_isLabel 1 (some .boolean), Cond.methodLink RX4 36 yX4_fail, Cond.instanceMethod yX4_fail, Cond.selects RX4 yX4_fail yX4_fail, Cond.code yX4_fail cX4_fail 2 (some .int), Cond.methodLink RX4 50 yX4_to, Cond.instanceMethod yX4_to, Cond.selects RX4 yX4_to yX4_to, Cond.code yX4_to cX4_to 3 (some .int), Cond.fieldLink RX4 13 "RegionNetsModel" "targets" "[I", Cond.methodLink RX4 89 yX4_firstPreventer, Cond.instanceMethod yX4_firstPreventer, Cond.selects RX4 yX4_firstPreventer yX4_firstPreventer, Cond.code yX4_firstPreventer cX4_firstPreventer 5 (some .int), Cond.fieldLink RX4 67 "RegionNetsModel" "regions" "I"]
def wsX4_preventer_r2 : List Cond := [Cond.fieldLink RX4 17 "RegionNetsModel" "sets" "[I", Cond.methodLink RX4 76 yX4_know, Cond.instanceMethod yX4_know, Cond.selects RX4 yX4_know yX4_know, Cond.code yX4_know cX4_know 2 none, Cond.fieldLink RX4 29 "RegionNetsModel" "isKnown" "Z", Cond.methodLink RX4 70 yX4_isProper, Cond.instanceMethod yX4_isProper, Cond.selects RX4 yX4_isProper yX4_isProper, Cond.code yX4_isProper cX4_isProper 2 (some .boolean), Cond.methodLink RX4 64 yX4_mixed, Cond.instanceMethod yX4_mixed, Cond.selects RX4 yX4_mixed yX4_mixed, Cond.code yX4_mixed cX4_mixed 3 (some .int), Cond.methodLink RX4 61 yX4_way, Cond.instanceMethod yX4_way, Cond.selects RX4 yX4_way yX4_way, Cond.code yX4_way cX4_way 8 (some .int), Cond.methodLink RX4 54 yX4_has, Cond.static yX4_has, Cond.code yX4_has cX4_has 2 (some .boolean)]
def wsX4_preventer : List Cond := .code yX4_preventer cX4_preventer 3 (some .int) :: ((wsX4_preventer_r1 ++ wsX4_preventer_r2) ++ wsX40)
def wsX4_lumpCount_r1 : List Cond := [Cond.fieldLink RX4 9 "RegionNetsModel" "states" "I", Cond.methodLink RX4 86 yX4_firstApart, Cond.instanceMethod yX4_firstApart, Cond.selects RX4 yX4_firstApart yX4_firstApart, Cond.initialized RX4, Cond.code yX4_firstApart cX4_firstApart 4 (some .int), Cond.fieldLink RX4 67 "RegionNetsModel" "regions" "I", Cond.fieldLink RX4 17 "RegionNetsModel" "sets" "[I", Cond.methodLink RX4 76 yX4_know, Cond.instanceMethod yX4_know, Cond.selects RX4 yX4_know yX4_know, Cond.code yX4_know cX4_know 2 none, Cond.fieldLink RX4 29 "RegionNetsModel" "isKnown" "Z", Cond.methodLink RX4 70 yX4_isProper, Cond.instanceMethod yX4_isProper, Cond.selects RX4 yX4_isProper yX4_isProper, Cond.code yX4_isProper cX4_isProper 2 (some .boolean), Cond.methodLink RX4 64 yX4_mixed, Cond.instanceMethod yX4_mixed, Cond.selects RX4 yX4_mixed yX4_mixed, Cond.code yX4_mixed cX4_mixed 3 (some .int), Cond.methodLink RX4 61 yX4_way, Cond.instanceMethod yX4_way, Cond.selects RX4 yX4_way yX4_way]
def wsX4_lumpCount_r2 : List Cond := [Cond.code yX4_way cX4_way 8 (some .int), Cond.methodLink RX4 50 yX4_to, Cond.instanceMethod yX4_to, Cond.selects RX4 yX4_to yX4_to, Cond.code yX4_to cX4_to 3 (some .int), Cond.fieldLink RX4 13 "RegionNetsModel" "targets" "[I", Cond.methodLink RX4 54 yX4_has, Cond.static yX4_has, Cond.code yX4_has cX4_has 2 (some .boolean)]
def wsX4_lumpCount : List Cond := .code yX4_lumpCount cX4_lumpCount 4 (some .int) :: ((wsX4_lumpCount_r1 ++ wsX4_lumpCount_r2) ++ wsX40)
def wsX4_lumps_r1 : List Cond := [Cond.fieldLink RX4 26 "RegionNetsModel" "thrown" "I", Cond.methodLink RX4 92 yX4_lumpCount, Cond.instanceMethod yX4_lumpCount, Cond.selects RX4 yX4_lumpCount yX4_lumpCount, Cond.initialized RX4, Cond.code yX4_lumpCount cX4_lumpCount 4 (some .int), Cond.fieldLink RX4 9 "RegionNetsModel" "states" "I", Cond.methodLink RX4 86 yX4_firstApart, Cond.instanceMethod yX4_firstApart, Cond.selects RX4 yX4_firstApart yX4_firstApart, Cond.code yX4_firstApart cX4_firstApart 4 (some .int), Cond.fieldLink RX4 67 "RegionNetsModel" "regions" "I", Cond.fieldLink RX4 17 "RegionNetsModel" "sets" "[I", Cond.methodLink RX4 76 yX4_know, Cond.instanceMethod yX4_know, Cond.selects RX4 yX4_know yX4_know, Cond.code yX4_know cX4_know 2 none, Cond.fieldLink RX4 29 "RegionNetsModel" "isKnown" "Z", Cond.methodLink RX4 70 yX4_isProper, Cond.instanceMethod yX4_isProper, Cond.selects RX4 yX4_isProper yX4_isProper, Cond.code yX4_isProper cX4_isProper 2 (some .boolean), Cond.methodLink RX4 64 yX4_mixed, Cond.instanceMethod yX4_mixed]
def wsX4_lumps_r2 : List Cond := [Cond.selects RX4 yX4_mixed yX4_mixed, Cond.code yX4_mixed cX4_mixed 3 (some .int), Cond.methodLink RX4 61 yX4_way, Cond.instanceMethod yX4_way, Cond.selects RX4 yX4_way yX4_way, Cond.code yX4_way cX4_way 8 (some .int), Cond.methodLink RX4 50 yX4_to, Cond.instanceMethod yX4_to, Cond.selects RX4 yX4_to yX4_to, Cond.code yX4_to cX4_to 3 (some .int), Cond.fieldLink RX4 13 "RegionNetsModel" "targets" "[I", Cond.methodLink RX4 54 yX4_has, Cond.static yX4_has, Cond.code yX4_has cX4_has 2 (some .boolean)]
def wsX4_lumps : List Cond := .code yX4_lumps cX4_lumps 1 (some .int) :: ((wsX4_lumps_r1 ++ wsX4_lumps_r2) ++ wsX40)
def wsX4_isAsked : List Cond := .code yX4_isAsked cX4_isAsked 3 (some .boolean) :: ([.methodLink RX4 50 yX4_to, .instanceMethod yX4_to, .selects RX4 yX4_to yX4_to, .initialized RX4, .code yX4_to cX4_to 3 (some .int), .fieldLink RX4 13 "RegionNetsModel" "targets" "[I", .methodLink RX4 82 yX4_ends, .instanceMethod yX4_ends, .selects RX4 yX4_ends yX4_ends, .code yX4_ends cX4_ends 5 (some .int), .fieldLink RX4 9 "RegionNetsModel" "states" "I"] ++ wsX40)
def wsX4_leakCount_r1 : List Cond := [Cond.fieldLink RX4 9 "RegionNetsModel" "states" "I", Cond.methodLink RX4 96 yX4_isAsked, Cond.instanceMethod yX4_isAsked, Cond.selects RX4 yX4_isAsked yX4_isAsked, Cond.initialized RX4, Cond.code yX4_isAsked cX4_isAsked 3 (some .boolean), Cond.methodLink RX4 50 yX4_to, Cond.instanceMethod yX4_to, Cond.selects RX4 yX4_to yX4_to, Cond.code yX4_to cX4_to 3 (some .int), Cond.fieldLink RX4 13 "RegionNetsModel" "targets" "[I", Cond.methodLink RX4 82 yX4_ends, Cond.instanceMethod yX4_ends, Cond.selects RX4 yX4_ends yX4_ends, Cond.code yX4_ends cX4_ends 5 (some .int), Cond.methodLink RX4 89 yX4_firstPreventer, Cond.instanceMethod yX4_firstPreventer, Cond.selects RX4 yX4_firstPreventer yX4_firstPreventer, Cond.code yX4_firstPreventer cX4_firstPreventer 5 (some .int), Cond.fieldLink RX4 67 "RegionNetsModel" "regions" "I", Cond.fieldLink RX4 17 "RegionNetsModel" "sets" "[I", Cond.methodLink RX4 76 yX4_know, Cond.instanceMethod yX4_know, Cond.selects RX4 yX4_know yX4_know]
def wsX4_leakCount_r2 : List Cond := [Cond.code yX4_know cX4_know 2 none, Cond.fieldLink RX4 29 "RegionNetsModel" "isKnown" "Z", Cond.methodLink RX4 70 yX4_isProper, Cond.instanceMethod yX4_isProper, Cond.selects RX4 yX4_isProper yX4_isProper, Cond.code yX4_isProper cX4_isProper 2 (some .boolean), Cond.methodLink RX4 64 yX4_mixed, Cond.instanceMethod yX4_mixed, Cond.selects RX4 yX4_mixed yX4_mixed, Cond.code yX4_mixed cX4_mixed 3 (some .int), Cond.methodLink RX4 61 yX4_way, Cond.instanceMethod yX4_way, Cond.selects RX4 yX4_way yX4_way, Cond.code yX4_way cX4_way 8 (some .int), Cond.methodLink RX4 54 yX4_has, Cond.static yX4_has, Cond.code yX4_has cX4_has 2 (some .boolean)]
def wsX4_leakCount : List Cond := .code yX4_leakCount cX4_leakCount 4 (some .int) :: ((wsX4_leakCount_r1 ++ wsX4_leakCount_r2) ++ wsX40)
def wsX4_leaks_r1 : List Cond := [Cond.fieldLink RX4 26 "RegionNetsModel" "thrown" "I", Cond.methodLink RX4 99 yX4_leakCount, Cond.instanceMethod yX4_leakCount, Cond.selects RX4 yX4_leakCount yX4_leakCount, Cond.initialized RX4, Cond.code yX4_leakCount cX4_leakCount 4 (some .int), Cond.fieldLink RX4 9 "RegionNetsModel" "states" "I", Cond.methodLink RX4 96 yX4_isAsked, Cond.instanceMethod yX4_isAsked, Cond.selects RX4 yX4_isAsked yX4_isAsked, Cond.code yX4_isAsked cX4_isAsked 3 (some .boolean), Cond.methodLink RX4 50 yX4_to, Cond.instanceMethod yX4_to, Cond.selects RX4 yX4_to yX4_to, Cond.code yX4_to cX4_to 3 (some .int), Cond.fieldLink RX4 13 "RegionNetsModel" "targets" "[I", Cond.methodLink RX4 82 yX4_ends, Cond.instanceMethod yX4_ends, Cond.selects RX4 yX4_ends yX4_ends, Cond.code yX4_ends cX4_ends 5 (some .int), Cond.methodLink RX4 89 yX4_firstPreventer, Cond.instanceMethod yX4_firstPreventer, Cond.selects RX4 yX4_firstPreventer yX4_firstPreventer, Cond.code yX4_firstPreventer cX4_firstPreventer 5 (some .int)]
def wsX4_leaks_r2 : List Cond := [Cond.fieldLink RX4 67 "RegionNetsModel" "regions" "I", Cond.fieldLink RX4 17 "RegionNetsModel" "sets" "[I", Cond.methodLink RX4 76 yX4_know, Cond.instanceMethod yX4_know, Cond.selects RX4 yX4_know yX4_know, Cond.code yX4_know cX4_know 2 none, Cond.fieldLink RX4 29 "RegionNetsModel" "isKnown" "Z", Cond.methodLink RX4 70 yX4_isProper, Cond.instanceMethod yX4_isProper, Cond.selects RX4 yX4_isProper yX4_isProper, Cond.code yX4_isProper cX4_isProper 2 (some .boolean), Cond.methodLink RX4 64 yX4_mixed, Cond.instanceMethod yX4_mixed, Cond.selects RX4 yX4_mixed yX4_mixed, Cond.code yX4_mixed cX4_mixed 3 (some .int), Cond.methodLink RX4 61 yX4_way, Cond.instanceMethod yX4_way, Cond.selects RX4 yX4_way yX4_way, Cond.code yX4_way cX4_way 8 (some .int), Cond.methodLink RX4 54 yX4_has, Cond.static yX4_has, Cond.code yX4_has cX4_has 2 (some .boolean)]
def wsX4_leaks : List Cond := .code yX4_leaks cX4_leaks 1 (some .int) :: ((wsX4_leaks_r1 ++ wsX4_leaks_r2) ++ wsX40)
def wsX4_fidelity_r1 : List Cond := [Cond.fieldLink RX4 26 "RegionNetsModel" "thrown" "I", Cond.fieldLink RX4 9 "RegionNetsModel" "states" "I", Cond.methodLink RX4 96 yX4_isAsked, Cond.instanceMethod yX4_isAsked, Cond.selects RX4 yX4_isAsked yX4_isAsked, Cond.initialized RX4, Cond.code yX4_isAsked cX4_isAsked 3 (some .boolean), Cond.methodLink RX4 50 yX4_to, Cond.instanceMethod yX4_to, Cond.selects RX4 yX4_to yX4_to, Cond.code yX4_to cX4_to 3 (some .int), Cond.fieldLink RX4 13 "RegionNetsModel" "targets" "[I", Cond.methodLink RX4 82 yX4_ends, Cond.instanceMethod yX4_ends, Cond.selects RX4 yX4_ends yX4_ends, Cond.code yX4_ends cX4_ends 5 (some .int), Cond.methodLink RX4 92 yX4_lumpCount, Cond.instanceMethod yX4_lumpCount, Cond.selects RX4 yX4_lumpCount yX4_lumpCount, Cond.code yX4_lumpCount cX4_lumpCount 4 (some .int), Cond.methodLink RX4 86 yX4_firstApart, Cond.instanceMethod yX4_firstApart, Cond.selects RX4 yX4_firstApart yX4_firstApart, Cond.code yX4_firstApart cX4_firstApart 4 (some .int)]
def wsX4_fidelity_r2 : List Cond := [Cond.fieldLink RX4 67 "RegionNetsModel" "regions" "I", Cond.fieldLink RX4 17 "RegionNetsModel" "sets" "[I", Cond.methodLink RX4 76 yX4_know, Cond.instanceMethod yX4_know, Cond.selects RX4 yX4_know yX4_know, Cond.code yX4_know cX4_know 2 none, Cond.fieldLink RX4 29 "RegionNetsModel" "isKnown" "Z", Cond.methodLink RX4 70 yX4_isProper, Cond.instanceMethod yX4_isProper, Cond.selects RX4 yX4_isProper yX4_isProper, Cond.code yX4_isProper cX4_isProper 2 (some .boolean), Cond.methodLink RX4 64 yX4_mixed, Cond.instanceMethod yX4_mixed, Cond.selects RX4 yX4_mixed yX4_mixed, Cond.code yX4_mixed cX4_mixed 3 (some .int), Cond.methodLink RX4 61 yX4_way, Cond.instanceMethod yX4_way, Cond.selects RX4 yX4_way yX4_way, Cond.code yX4_way cX4_way 8 (some .int), Cond.methodLink RX4 54 yX4_has, Cond.static yX4_has, Cond.code yX4_has cX4_has 2 (some .boolean), Cond.methodLink RX4 99 yX4_leakCount, Cond.instanceMethod yX4_leakCount]
def wsX4_fidelity_r3 : List Cond := [Cond.selects RX4 yX4_leakCount yX4_leakCount, Cond.code yX4_leakCount cX4_leakCount 4 (some .int), Cond.methodLink RX4 89 yX4_firstPreventer, Cond.instanceMethod yX4_firstPreventer, Cond.selects RX4 yX4_firstPreventer yX4_firstPreventer, Cond.code yX4_firstPreventer cX4_firstPreventer 5 (some .int)]
def wsX4_fidelity : List Cond := .code yX4_fidelity cX4_fidelity 4 (some .double) :: ((wsX4_fidelity_r1 ++ (wsX4_fidelity_r2 ++ wsX4_fidelity_r3)) ++ wsX40)
def wsX4_firstMarking : List Cond := .code yX4_firstMarking cX4_firstMarking 3 (some .int) :: ([.fieldLink RX4 102 "RegionNetsModel" "places" "I", .fieldLink RX4 20 "RegionNetsModel" "placeSets" "[I", .methodLink RX4 54 yX4_has, .static yX4_has, .initialized RX4, .code yX4_has cX4_has 2 (some .boolean)] ++ wsX40)
def wsX4_crossed : List Cond := .code yX4_crossed cX4_crossed 5 (some .int) :: ([.fieldLink RX4 102 "RegionNetsModel" "places" "I", .fieldLink RX4 20 "RegionNetsModel" "placeSets" "[I", .methodLink RX4 61 yX4_way, .instanceMethod yX4_way, .selects RX4 yX4_way yX4_way, .initialized RX4, .code yX4_way cX4_way 8 (some .int), .fieldLink RX4 9 "RegionNetsModel" "states" "I", .methodLink RX4 50 yX4_to, .instanceMethod yX4_to, .selects RX4 yX4_to yX4_to, .code yX4_to cX4_to 3 (some .int), .fieldLink RX4 13 "RegionNetsModel" "targets" "[I", .methodLink RX4 54 yX4_has, .static yX4_has, .code yX4_has cX4_has 2 (some .boolean)] ++ wsX40)
def wsX4_behind : List Cond := .code yX4_behind cX4_behind 5 (some .int) :: ([.methodLink RX4 117 yX4_crossed, .instanceMethod yX4_crossed, .selects RX4 yX4_crossed yX4_crossed, .initialized RX4, .code yX4_crossed cX4_crossed 5 (some .int), .fieldLink RX4 102 "RegionNetsModel" "places" "I", .fieldLink RX4 20 "RegionNetsModel" "placeSets" "[I", .methodLink RX4 61 yX4_way, .instanceMethod yX4_way, .selects RX4 yX4_way yX4_way, .code yX4_way cX4_way 8 (some .int), .fieldLink RX4 9 "RegionNetsModel" "states" "I", .methodLink RX4 50 yX4_to, .instanceMethod yX4_to, .selects RX4 yX4_to yX4_to, .code yX4_to cX4_to 3 (some .int), .fieldLink RX4 13 "RegionNetsModel" "targets" "[I", .methodLink RX4 54 yX4_has, .static yX4_has, .code yX4_has cX4_has 2 (some .boolean), .methodLink RX4 82 yX4_ends, .instanceMethod yX4_ends, .selects RX4 yX4_ends yX4_ends, .code yX4_ends cX4_ends 5 (some .int)] ++ wsX40)
def wsX4_numberOf : List Cond := .code yX4_numberOf cX4_numberOf 3 (some .int) :: ([.fieldLink RX4 123 "RegionNetsModel" "markings" "I", .fieldLink RX4 23 "RegionNetsModel" "found" "[I"] ++ wsX40)
def wsX4_findMarkings_r1 : List Cond := [Cond.fieldLink RX4 23 "RegionNetsModel" "found" "[I", Cond.fieldLink RX4 123 "RegionNetsModel" "markings" "I", Cond.methodLink RX4 108 yX4_firstMarking, Cond.instanceMethod yX4_firstMarking, Cond.selects RX4 yX4_firstMarking yX4_firstMarking, Cond.initialized RX4, Cond.code yX4_firstMarking cX4_firstMarking 3 (some .int), Cond.fieldLink RX4 102 "RegionNetsModel" "places" "I", Cond.fieldLink RX4 20 "RegionNetsModel" "placeSets" "[I", Cond.methodLink RX4 54 yX4_has, Cond.static yX4_has, Cond.code yX4_has cX4_has 2 (some .boolean), Cond.methodLink RX4 120 yX4_behind, Cond.instanceMethod yX4_behind, Cond.selects RX4 yX4_behind yX4_behind, Cond.code yX4_behind cX4_behind 5 (some .int), Cond.methodLink RX4 117 yX4_crossed, Cond.instanceMethod yX4_crossed, Cond.selects RX4 yX4_crossed yX4_crossed, Cond.code yX4_crossed cX4_crossed 5 (some .int), Cond.methodLink RX4 61 yX4_way, Cond.instanceMethod yX4_way, Cond.selects RX4 yX4_way yX4_way, Cond.code yX4_way cX4_way 8 (some .int)]
def wsX4_findMarkings_r2 : List Cond := [Cond.fieldLink RX4 9 "RegionNetsModel" "states" "I", Cond.methodLink RX4 50 yX4_to, Cond.instanceMethod yX4_to, Cond.selects RX4 yX4_to yX4_to, Cond.code yX4_to cX4_to 3 (some .int), Cond.fieldLink RX4 13 "RegionNetsModel" "targets" "[I", Cond.methodLink RX4 82 yX4_ends, Cond.instanceMethod yX4_ends, Cond.selects RX4 yX4_ends yX4_ends, Cond.code yX4_ends cX4_ends 5 (some .int), Cond.methodLink RX4 126 yX4_numberOf, Cond.instanceMethod yX4_numberOf, Cond.selects RX4 yX4_numberOf yX4_numberOf, Cond.code yX4_numberOf cX4_numberOf 3 (some .int)]
def wsX4_findMarkings : List Cond := .code yX4_findMarkings cX4_findMarkings 4 none :: ((wsX4_findMarkings_r1 ++ wsX4_findMarkings_r2) ++ wsX40)
def wsX4_makeNet_r1 : List Cond := [Cond.fieldLink RX4 26 "RegionNetsModel" "thrown" "I", Cond.fieldLink RX4 33 "RegionNetsModel" "isNet" "Z", Cond.fieldLink RX4 102 "RegionNetsModel" "places" "I", Cond.fieldLink RX4 67 "RegionNetsModel" "regions" "I", Cond.fieldLink RX4 20 "RegionNetsModel" "placeSets" "[I", Cond.fieldLink RX4 17 "RegionNetsModel" "sets" "[I", Cond.fieldLink RX4 111 "RegionNetsModel" "marking" "I", Cond.methodLink RX4 76 yX4_know, Cond.instanceMethod yX4_know, Cond.selects RX4 yX4_know yX4_know, Cond.initialized RX4, Cond.code yX4_know cX4_know 2 none, Cond.fieldLink RX4 29 "RegionNetsModel" "isKnown" "Z", Cond.fieldLink RX4 9 "RegionNetsModel" "states" "I", Cond.methodLink RX4 70 yX4_isProper, Cond.instanceMethod yX4_isProper, Cond.selects RX4 yX4_isProper yX4_isProper, Cond.code yX4_isProper cX4_isProper 2 (some .boolean), Cond.methodLink RX4 64 yX4_mixed, Cond.instanceMethod yX4_mixed, Cond.selects RX4 yX4_mixed yX4_mixed, Cond.code yX4_mixed cX4_mixed 3 (some .int), Cond.methodLink RX4 61 yX4_way, Cond.instanceMethod yX4_way]
def wsX4_makeNet_r2 : List Cond := [Cond.selects RX4 yX4_way yX4_way, Cond.code yX4_way cX4_way 8 (some .int), Cond.methodLink RX4 50 yX4_to, Cond.instanceMethod yX4_to, Cond.selects RX4 yX4_to yX4_to, Cond.code yX4_to cX4_to 3 (some .int), Cond.fieldLink RX4 13 "RegionNetsModel" "targets" "[I", Cond.methodLink RX4 54 yX4_has, Cond.static yX4_has, Cond.code yX4_has cX4_has 2 (some .boolean), Cond.methodLink RX4 79 yX4_isSmallest, Cond.instanceMethod yX4_isSmallest, Cond.selects RX4 yX4_isSmallest yX4_isSmallest, Cond.code yX4_isSmallest cX4_isSmallest 4 (some .boolean), Cond.methodLink RX4 105 yX4_findMarkings, Cond.instanceMethod yX4_findMarkings, Cond.selects RX4 yX4_findMarkings yX4_findMarkings, Cond.code yX4_findMarkings cX4_findMarkings 4 none, Cond.fieldLink RX4 23 "RegionNetsModel" "found" "[I", Cond.fieldLink RX4 123 "RegionNetsModel" "markings" "I", Cond.methodLink RX4 108 yX4_firstMarking, Cond.instanceMethod yX4_firstMarking, Cond.selects RX4 yX4_firstMarking yX4_firstMarking, Cond.code yX4_firstMarking cX4_firstMarking 3 (some .int)]
def wsX4_makeNet_r3 : List Cond := [Cond.methodLink RX4 120 yX4_behind, Cond.instanceMethod yX4_behind, Cond.selects RX4 yX4_behind yX4_behind, Cond.code yX4_behind cX4_behind 5 (some .int), Cond.methodLink RX4 117 yX4_crossed, Cond.instanceMethod yX4_crossed, Cond.selects RX4 yX4_crossed yX4_crossed, Cond.code yX4_crossed cX4_crossed 5 (some .int), Cond.methodLink RX4 82 yX4_ends, Cond.instanceMethod yX4_ends, Cond.selects RX4 yX4_ends yX4_ends, Cond.code yX4_ends cX4_ends 5 (some .int), Cond.methodLink RX4 126 yX4_numberOf, Cond.instanceMethod yX4_numberOf, Cond.selects RX4 yX4_numberOf yX4_numberOf, Cond.code yX4_numberOf cX4_numberOf 3 (some .int)]
def wsX4_makeNet : List Cond := .code yX4_makeNet cX4_makeNet 2 (some .int) :: ((wsX4_makeNet_r1 ++ (wsX4_makeNet_r2 ++ wsX4_makeNet_r3)) ++ wsX40)
def wsX4_hasNet : List Cond := .code yX4_hasNet cX4_hasNet 1 (some .boolean) :: ([.fieldLink RX4 26 "RegionNetsModel" "thrown" "I", .fieldLink RX4 33 "RegionNetsModel" "isNet" "Z"] ++ wsX40)
def wsX4_asks : List Cond := .code yX4_asks cX4_asks 3 (some .boolean) :: ([.fieldLink RX4 33 "RegionNetsModel" "isNet" "Z", .fieldLink RX4 26 "RegionNetsModel" "thrown" "I"] ++ wsX40)
def wsX4_placeRegion : List Cond := .code yX4_placeRegion cX4_placeRegion 2 (some .int) :: ([.fieldLink RX4 102 "RegionNetsModel" "places" "I", .fieldLink RX4 20 "RegionNetsModel" "placeSets" "[I", .methodLink RX4 114 yX4_asks, .instanceMethod yX4_asks, .selects RX4 yX4_asks yX4_asks, .initialized RX4, .code yX4_asks cX4_asks 3 (some .boolean), .fieldLink RX4 33 "RegionNetsModel" "isNet" "Z", .fieldLink RX4 26 "RegionNetsModel" "thrown" "I"] ++ wsX40)
def wsX4_consumed_r1 : List Cond := [Cond.methodLink RX4 114 yX4_asks, Cond.instanceMethod yX4_asks, Cond.selects RX4 yX4_asks yX4_asks, Cond.initialized RX4, Cond.code yX4_asks cX4_asks 3 (some .boolean), Cond.fieldLink RX4 33 "RegionNetsModel" "isNet" "Z", Cond.fieldLink RX4 26 "RegionNetsModel" "thrown" "I", Cond.methodLink RX4 117 yX4_crossed, Cond.instanceMethod yX4_crossed, Cond.selects RX4 yX4_crossed yX4_crossed, Cond.code yX4_crossed cX4_crossed 5 (some .int), Cond.fieldLink RX4 102 "RegionNetsModel" "places" "I", Cond.fieldLink RX4 20 "RegionNetsModel" "placeSets" "[I", Cond.methodLink RX4 61 yX4_way, Cond.instanceMethod yX4_way, Cond.selects RX4 yX4_way yX4_way, Cond.code yX4_way cX4_way 8 (some .int), Cond.fieldLink RX4 9 "RegionNetsModel" "states" "I", Cond.methodLink RX4 50 yX4_to, Cond.instanceMethod yX4_to, Cond.selects RX4 yX4_to yX4_to, Cond.code yX4_to cX4_to 3 (some .int), Cond.fieldLink RX4 13 "RegionNetsModel" "targets" "[I", Cond.methodLink RX4 54 yX4_has]
def wsX4_consumed_r2 : List Cond := [Cond.static yX4_has, Cond.code yX4_has cX4_has 2 (some .boolean)]
def wsX4_consumed : List Cond := .code yX4_consumed cX4_consumed 2 (some .int) :: ((wsX4_consumed_r1 ++ wsX4_consumed_r2) ++ wsX40)
def wsX4_produced_r1 : List Cond := [Cond.methodLink RX4 114 yX4_asks, Cond.instanceMethod yX4_asks, Cond.selects RX4 yX4_asks yX4_asks, Cond.initialized RX4, Cond.code yX4_asks cX4_asks 3 (some .boolean), Cond.fieldLink RX4 33 "RegionNetsModel" "isNet" "Z", Cond.fieldLink RX4 26 "RegionNetsModel" "thrown" "I", Cond.methodLink RX4 117 yX4_crossed, Cond.instanceMethod yX4_crossed, Cond.selects RX4 yX4_crossed yX4_crossed, Cond.code yX4_crossed cX4_crossed 5 (some .int), Cond.fieldLink RX4 102 "RegionNetsModel" "places" "I", Cond.fieldLink RX4 20 "RegionNetsModel" "placeSets" "[I", Cond.methodLink RX4 61 yX4_way, Cond.instanceMethod yX4_way, Cond.selects RX4 yX4_way yX4_way, Cond.code yX4_way cX4_way 8 (some .int), Cond.fieldLink RX4 9 "RegionNetsModel" "states" "I", Cond.methodLink RX4 50 yX4_to, Cond.instanceMethod yX4_to, Cond.selects RX4 yX4_to yX4_to, Cond.code yX4_to cX4_to 3 (some .int), Cond.fieldLink RX4 13 "RegionNetsModel" "targets" "[I", Cond.methodLink RX4 54 yX4_has]
def wsX4_produced_r2 : List Cond := [Cond.static yX4_has, Cond.code yX4_has cX4_has 2 (some .boolean)]
def wsX4_produced : List Cond := .code yX4_produced cX4_produced 2 (some .int) :: ((wsX4_produced_r1 ++ wsX4_produced_r2) ++ wsX40)
def wsX4_marking : List Cond := .code yX4_marking cX4_marking 1 (some .int) :: ([.fieldLink RX4 111 "RegionNetsModel" "marking" "I", .methodLink RX4 114 yX4_asks, .instanceMethod yX4_asks, .selects RX4 yX4_asks yX4_asks, .initialized RX4, .code yX4_asks cX4_asks 3 (some .boolean), .fieldLink RX4 33 "RegionNetsModel" "isNet" "Z", .fieldLink RX4 26 "RegionNetsModel" "thrown" "I"] ++ wsX40)
def wsX4_fire_r1 : List Cond := [Cond.fieldLink RX4 111 "RegionNetsModel" "marking" "I", Cond.methodLink RX4 114 yX4_asks, Cond.instanceMethod yX4_asks, Cond.selects RX4 yX4_asks yX4_asks, Cond.initialized RX4, Cond.code yX4_asks cX4_asks 3 (some .boolean), Cond.fieldLink RX4 33 "RegionNetsModel" "isNet" "Z", Cond.fieldLink RX4 26 "RegionNetsModel" "thrown" "I", Cond.methodLink RX4 120 yX4_behind, Cond.instanceMethod yX4_behind, Cond.selects RX4 yX4_behind yX4_behind, Cond.code yX4_behind cX4_behind 5 (some .int), Cond.methodLink RX4 117 yX4_crossed, Cond.instanceMethod yX4_crossed, Cond.selects RX4 yX4_crossed yX4_crossed, Cond.code yX4_crossed cX4_crossed 5 (some .int), Cond.fieldLink RX4 102 "RegionNetsModel" "places" "I", Cond.fieldLink RX4 20 "RegionNetsModel" "placeSets" "[I", Cond.methodLink RX4 61 yX4_way, Cond.instanceMethod yX4_way, Cond.selects RX4 yX4_way yX4_way, Cond.code yX4_way cX4_way 8 (some .int), Cond.fieldLink RX4 9 "RegionNetsModel" "states" "I", Cond.methodLink RX4 50 yX4_to]
def wsX4_fire_r2 : List Cond := [Cond.instanceMethod yX4_to, Cond.selects RX4 yX4_to yX4_to, Cond.code yX4_to cX4_to 3 (some .int), Cond.fieldLink RX4 13 "RegionNetsModel" "targets" "[I", Cond.methodLink RX4 54 yX4_has, Cond.static yX4_has, Cond.code yX4_has cX4_has 2 (some .boolean), Cond.methodLink RX4 82 yX4_ends, Cond.instanceMethod yX4_ends, Cond.selects RX4 yX4_ends yX4_ends, Cond.code yX4_ends cX4_ends 5 (some .int)]
def wsX4_fire : List Cond := .code yX4_fire cX4_fire 3 (some .int) :: ((wsX4_fire_r1 ++ wsX4_fire_r2) ++ wsX40)
def wsX4_markingCount : List Cond := .code yX4_markingCount cX4_markingCount 1 (some .int) :: ([.fieldLink RX4 123 "RegionNetsModel" "markings" "I", .methodLink RX4 114 yX4_asks, .instanceMethod yX4_asks, .selects RX4 yX4_asks yX4_asks, .initialized RX4, .code yX4_asks cX4_asks 3 (some .boolean), .fieldLink RX4 33 "RegionNetsModel" "isNet" "Z", .fieldLink RX4 26 "RegionNetsModel" "thrown" "I"] ++ wsX40)
def wsX4_markingAt : List Cond := .code yX4_markingAt cX4_markingAt 2 (some .int) :: ([.fieldLink RX4 123 "RegionNetsModel" "markings" "I", .fieldLink RX4 23 "RegionNetsModel" "found" "[I", .methodLink RX4 114 yX4_asks, .instanceMethod yX4_asks, .selects RX4 yX4_asks yX4_asks, .initialized RX4, .code yX4_asks cX4_asks 3 (some .boolean), .fieldLink RX4 33 "RegionNetsModel" "isNet" "Z", .fieldLink RX4 26 "RegionNetsModel" "thrown" "I"] ++ wsX40)
def wsX4_isFaithful_r1 : List Cond := [Cond.arrayClass .int, Cond.fieldLink RX4 9 "RegionNetsModel" "states" "I", Cond.fieldLink RX4 23 "RegionNetsModel" "found" "[I", Cond.fieldLink RX4 123 "RegionNetsModel" "markings" "I", Cond.methodLink RX4 114 yX4_asks, Cond.instanceMethod yX4_asks, Cond.selects RX4 yX4_asks yX4_asks, Cond.initialized RX4, Cond.code yX4_asks cX4_asks 3 (some .boolean), Cond.fieldLink RX4 33 "RegionNetsModel" "isNet" "Z", Cond.fieldLink RX4 26 "RegionNetsModel" "thrown" "I", Cond.methodLink RX4 54 yX4_has, Cond.static yX4_has, Cond.code yX4_has cX4_has 2 (some .boolean), Cond.methodLink RX4 50 yX4_to, Cond.instanceMethod yX4_to, Cond.selects RX4 yX4_to yX4_to, Cond.code yX4_to cX4_to 3 (some .int), Cond.fieldLink RX4 13 "RegionNetsModel" "targets" "[I", Cond.methodLink RX4 120 yX4_behind, Cond.instanceMethod yX4_behind, Cond.selects RX4 yX4_behind yX4_behind, Cond.code yX4_behind cX4_behind 5 (some .int), Cond.methodLink RX4 117 yX4_crossed]
def wsX4_isFaithful_r2 : List Cond := [Cond.instanceMethod yX4_crossed, Cond.selects RX4 yX4_crossed yX4_crossed, Cond.code yX4_crossed cX4_crossed 5 (some .int), Cond.fieldLink RX4 102 "RegionNetsModel" "places" "I", Cond.fieldLink RX4 20 "RegionNetsModel" "placeSets" "[I", Cond.methodLink RX4 61 yX4_way, Cond.instanceMethod yX4_way, Cond.selects RX4 yX4_way yX4_way, Cond.code yX4_way cX4_way 8 (some .int), Cond.methodLink RX4 82 yX4_ends, Cond.instanceMethod yX4_ends, Cond.selects RX4 yX4_ends yX4_ends, Cond.code yX4_ends cX4_ends 5 (some .int), Cond.methodLink RX4 126 yX4_numberOf, Cond.instanceMethod yX4_numberOf, Cond.selects RX4 yX4_numberOf yX4_numberOf, Cond.code yX4_numberOf cX4_numberOf 3 (some .int)]
def wsX4_isFaithful : List Cond := .code yX4_isFaithful cX4_isFaithful 10 (some .boolean) :: ((wsX4_isFaithful_r1 ++ wsX4_isFaithful_r2) ++ wsX40)
def wsX4_digest_r1 : List Cond := [Cond.fieldLink RX4 26 "RegionNetsModel" "thrown" "I", Cond.constantLong RX4 129 (4681), Cond.fieldLink RX4 9 "RegionNetsModel" "states" "I", Cond.constantLong RX4 131 (31), Cond.fieldLink RX4 67 "RegionNetsModel" "regions" "I", Cond.fieldLink RX4 17 "RegionNetsModel" "sets" "[I", Cond.fieldLink RX4 33 "RegionNetsModel" "isNet" "Z", Cond.fieldLink RX4 102 "RegionNetsModel" "places" "I", Cond.fieldLink RX4 111 "RegionNetsModel" "marking" "I", Cond.methodLink RX4 76 yX4_know, Cond.instanceMethod yX4_know, Cond.selects RX4 yX4_know yX4_know, Cond.initialized RX4, Cond.code yX4_know cX4_know 2 none, Cond.fieldLink RX4 29 "RegionNetsModel" "isKnown" "Z", Cond.methodLink RX4 70 yX4_isProper, Cond.instanceMethod yX4_isProper, Cond.selects RX4 yX4_isProper yX4_isProper, Cond.code yX4_isProper cX4_isProper 2 (some .boolean), Cond.methodLink RX4 64 yX4_mixed, Cond.instanceMethod yX4_mixed, Cond.selects RX4 yX4_mixed yX4_mixed, Cond.code yX4_mixed cX4_mixed 3 (some .int), Cond.methodLink RX4 61 yX4_way]
def wsX4_digest_r2 : List Cond := [Cond.instanceMethod yX4_way, Cond.selects RX4 yX4_way yX4_way, Cond.code yX4_way cX4_way 8 (some .int), Cond.methodLink RX4 50 yX4_to, Cond.instanceMethod yX4_to, Cond.selects RX4 yX4_to yX4_to, Cond.code yX4_to cX4_to 3 (some .int), Cond.fieldLink RX4 13 "RegionNetsModel" "targets" "[I", Cond.methodLink RX4 54 yX4_has, Cond.static yX4_has, Cond.code yX4_has cX4_has 2 (some .boolean)]
def wsX4_digest : List Cond := .code yX4_digest cX4_digest 5 (some .long) :: ((wsX4_digest_r1 ++ wsX4_digest_r2) ++ wsX40)
def wsL_addState : List Cond := .codeWith yL_addState cL_addState 3 (some .int) [(0, 8, 11, 13)] :: ([.classLink RL 13 "java/lang/IllegalStateException", .methodLink RL 7 yX3_addState, .instanceMethod yX3_addState, .selects RX3 yX3_addState yX3_addState, .initialized RX3, .code yX3_addState cX3_addState 2 (some .int), .classLink RX3 38 "java/lang/IllegalStateException", .initialized "java/lang/IllegalStateException", .fieldLink RX3 10 "RegionNets" "steps" "LRegionNets$Steps;", .methodLink RX3 45 yX3_changed, .instanceMethod yX3_changed, .selects RX3 yX3_changed yX3_changed, .code yX3_changed cX3_changed 1 none, .fieldLink RX3 21 "RegionNets" "regions" "LRegionNets$Regions;", .fieldLink RX3 30 "RegionNets" "net" "LRegionNets$Net;"] ++ wsX30 ++ wsX20 ++ wsX10 ++ wsX00 ++ (vx_atS RX3 42 "java/lang/IllegalStateException" ["java/lang/RuntimeException", "java/lang/Exception"]).filter goodWord)
def wsL_step_r1 : List Cond := [Cond.classLink RL 19 "java/lang/IndexOutOfBoundsException", Cond.methodLink RL 15 yX3_step, Cond.instanceMethod yX3_step, Cond.selects RX3 yX3_step yX3_step, Cond.initialized RX3, Cond.code yX3_step cX3_step 5 (some .int), Cond.fieldLink RX3 10 "RegionNets" "steps" "LRegionNets$Steps;", Cond.methodLink RX3 48 yX3_needState, Cond.instanceMethod yX3_needState, Cond.selects RX3 yX3_needState yX3_needState, Cond.code yX3_needState cX3_needState 2 none, Cond.classLink RX3 147 "java/lang/IndexOutOfBoundsException", Cond.initialized "java/lang/IndexOutOfBoundsException", Cond.methodLink RX3 52 yX3_needLabel, Cond.static yX3_needLabel, Cond.code yX3_needLabel cX3_needLabel 1 none, Cond.methodLink RX3 55 yX2_end, Cond.instanceMethod yX2_end, Cond.selects RX2 yX2_end yX2_end, Cond.initialized RX2, Cond.code yX2_end cX2_end 3 (some .int), Cond.fieldLink RX2 17 "RegionNets$Steps" "ends" "[[I", Cond.methodLink RX3 59 yX2_put, Cond.instanceMethod yX2_put]
def wsL_step_r2 : List Cond := [Cond.selects RX2 yX2_put yX2_put, Cond.code yX2_put cX2_put 4 none, Cond.methodLink RX2 30 yX2_setEnd, Cond.instanceMethod yX2_setEnd, Cond.selects RX2 yX2_setEnd yX2_setEnd, Cond.code yX2_setEnd cX2_setEnd 5 none, Cond.fieldLink RX2 20 "RegionNets$Steps" "begins" "[I", Cond.methodLink RX2 34 yX2_learnSources, Cond.instanceMethod yX2_learnSources, Cond.selects RX2 yX2_learnSources yX2_learnSources, Cond.code yX2_learnSources cX2_learnSources 2 none, Cond.fieldLink RX2 24 "RegionNets$Steps" "lowSources" "[[I", Cond.fieldLink RX2 27 "RegionNets$Steps" "highSources" "[[I", Cond.methodLink RX2 38 yX2_learnHalf, Cond.instanceMethod yX2_learnHalf, Cond.selects RX2 yX2_learnHalf yX2_learnHalf, Cond.code yX2_learnHalf cX2_learnHalf 8 none, Cond.methodLink RX2 42 yX2_beginsOfStepsTo, Cond.instanceMethod yX2_beginsOfStepsTo, Cond.selects RX2 yX2_beginsOfStepsTo yX2_beginsOfStepsTo, Cond.code yX2_beginsOfStepsTo cX2_beginsOfStepsTo 5 (some .int), Cond.fieldLink RX2 9 "RegionNets$Steps" "states" "I", Cond.methodLink RX3 45 yX3_changed, Cond.instanceMethod yX3_changed]
def wsL_step_r3 : List Cond := [Cond.selects RX3 yX3_changed yX3_changed, Cond.code yX3_changed cX3_changed 1 none, Cond.fieldLink RX3 21 "RegionNets" "regions" "LRegionNets$Regions;", Cond.fieldLink RX3 30 "RegionNets" "net" "LRegionNets$Net;"]
def wsL_step : List Cond := .codeWith yL_step cL_step 6 (some .int) [(0, 12, 15, 19)] :: ((wsL_step_r1 ++ (wsL_step_r2 ++ wsL_step_r3)) ++ wsX30 ++ wsX20 ++ wsX10 ++ wsX00 ++ (vx_atS RX3 151 "java/lang/IndexOutOfBoundsException" ["java/lang/RuntimeException", "java/lang/Exception"]).filter goodWord)
def wsL_unstep_r1 : List Cond := [Cond.classLink RL 19 "java/lang/IndexOutOfBoundsException", Cond.methodLink RL 21 yX3_unstep, Cond.instanceMethod yX3_unstep, Cond.selects RX3 yX3_unstep yX3_unstep, Cond.initialized RX3, Cond.code yX3_unstep cX3_unstep 4 (some .boolean), Cond.fieldLink RX3 10 "RegionNets" "steps" "LRegionNets$Steps;", Cond.methodLink RX3 48 yX3_needState, Cond.instanceMethod yX3_needState, Cond.selects RX3 yX3_needState yX3_needState, Cond.code yX3_needState cX3_needState 2 none, Cond.classLink RX3 147 "java/lang/IndexOutOfBoundsException", Cond.initialized "java/lang/IndexOutOfBoundsException", Cond.methodLink RX3 52 yX3_needLabel, Cond.static yX3_needLabel, Cond.code yX3_needLabel cX3_needLabel 1 none, Cond.methodLink RX3 55 yX2_end, Cond.instanceMethod yX2_end, Cond.selects RX2 yX2_end yX2_end, Cond.initialized RX2, Cond.code yX2_end cX2_end 3 (some .int), Cond.fieldLink RX2 17 "RegionNets$Steps" "ends" "[[I", Cond.methodLink RX3 59 yX2_put, Cond.instanceMethod yX2_put]
def wsL_unstep_r2 : List Cond := [Cond.selects RX2 yX2_put yX2_put, Cond.code yX2_put cX2_put 4 none, Cond.methodLink RX2 30 yX2_setEnd, Cond.instanceMethod yX2_setEnd, Cond.selects RX2 yX2_setEnd yX2_setEnd, Cond.code yX2_setEnd cX2_setEnd 5 none, Cond.fieldLink RX2 20 "RegionNets$Steps" "begins" "[I", Cond.methodLink RX2 34 yX2_learnSources, Cond.instanceMethod yX2_learnSources, Cond.selects RX2 yX2_learnSources yX2_learnSources, Cond.code yX2_learnSources cX2_learnSources 2 none, Cond.fieldLink RX2 24 "RegionNets$Steps" "lowSources" "[[I", Cond.fieldLink RX2 27 "RegionNets$Steps" "highSources" "[[I", Cond.methodLink RX2 38 yX2_learnHalf, Cond.instanceMethod yX2_learnHalf, Cond.selects RX2 yX2_learnHalf yX2_learnHalf, Cond.code yX2_learnHalf cX2_learnHalf 8 none, Cond.methodLink RX2 42 yX2_beginsOfStepsTo, Cond.instanceMethod yX2_beginsOfStepsTo, Cond.selects RX2 yX2_beginsOfStepsTo yX2_beginsOfStepsTo, Cond.code yX2_beginsOfStepsTo cX2_beginsOfStepsTo 5 (some .int), Cond.fieldLink RX2 9 "RegionNets$Steps" "states" "I", Cond.methodLink RX3 45 yX3_changed, Cond.instanceMethod yX3_changed]
def wsL_unstep_r3 : List Cond := [Cond.selects RX3 yX3_changed yX3_changed, Cond.code yX3_changed cX3_changed 1 none, Cond.fieldLink RX3 21 "RegionNets" "regions" "LRegionNets$Regions;", Cond.fieldLink RX3 30 "RegionNets" "net" "LRegionNets$Net;"]
def wsL_unstep : List Cond := .codeWith yL_unstep cL_unstep 5 (some .int) [(0, 17, 20, 19)] :: ((wsL_unstep_r1 ++ (wsL_unstep_r2 ++ wsL_unstep_r3)) ++ wsX30 ++ wsX20 ++ wsX10 ++ wsX00 ++ (vx_atS RX3 151 "java/lang/IndexOutOfBoundsException" ["java/lang/RuntimeException", "java/lang/Exception"]).filter goodWord)
def wsL_rename_r1 : List Cond := [Cond.classLink RL 19 "java/lang/IndexOutOfBoundsException", Cond.classLink RL 13 "java/lang/IllegalStateException", Cond.methodLink RL 25 yX3_rename, Cond.instanceMethod yX3_rename, Cond.selects RX3 yX3_rename yX3_rename, Cond.initialized RX3, Cond.code yX3_rename cX3_rename 4 (some .int), Cond.classLink RX3 38 "java/lang/IllegalStateException", Cond.initialized "java/lang/IllegalStateException", Cond.fieldLink RX3 10 "RegionNets" "steps" "LRegionNets$Steps;", Cond.methodLink RX3 52 yX3_needLabel, Cond.static yX3_needLabel, Cond.code yX3_needLabel cX3_needLabel 1 none, Cond.classLink RX3 147 "java/lang/IndexOutOfBoundsException", Cond.initialized "java/lang/IndexOutOfBoundsException", Cond.methodLink RX3 63 yX2_beginning, Cond.instanceMethod yX2_beginning, Cond.selects RX2 yX2_beginning yX2_beginning, Cond.initialized RX2, Cond.code yX2_beginning cX2_beginning 2 (some .int), Cond.fieldLink RX2 20 "RegionNets$Steps" "begins" "[I", Cond.methodLink RX3 69 yX2_move, Cond.instanceMethod yX2_move, Cond.selects RX2 yX2_move yX2_move]
def wsL_rename_r2 : List Cond := [Cond.code yX2_move cX2_move 5 none, Cond.fieldLink RX2 9 "RegionNets$Steps" "states" "I", Cond.fieldLink RX2 17 "RegionNets$Steps" "ends" "[[I", Cond.methodLink RX2 30 yX2_setEnd, Cond.instanceMethod yX2_setEnd, Cond.selects RX2 yX2_setEnd yX2_setEnd, Cond.code yX2_setEnd cX2_setEnd 5 none, Cond.methodLink RX2 34 yX2_learnSources, Cond.instanceMethod yX2_learnSources, Cond.selects RX2 yX2_learnSources yX2_learnSources, Cond.code yX2_learnSources cX2_learnSources 2 none, Cond.fieldLink RX2 24 "RegionNets$Steps" "lowSources" "[[I", Cond.fieldLink RX2 27 "RegionNets$Steps" "highSources" "[[I", Cond.methodLink RX2 38 yX2_learnHalf, Cond.instanceMethod yX2_learnHalf, Cond.selects RX2 yX2_learnHalf yX2_learnHalf, Cond.code yX2_learnHalf cX2_learnHalf 8 none, Cond.methodLink RX2 42 yX2_beginsOfStepsTo, Cond.instanceMethod yX2_beginsOfStepsTo, Cond.selects RX2 yX2_beginsOfStepsTo yX2_beginsOfStepsTo, Cond.code yX2_beginsOfStepsTo cX2_beginsOfStepsTo 5 (some .int), Cond.methodLink RX3 45 yX3_changed, Cond.instanceMethod yX3_changed, Cond.selects RX3 yX3_changed yX3_changed]
def wsL_rename_r3 : List Cond := [Cond.code yX3_changed cX3_changed 1 none, Cond.fieldLink RX3 21 "RegionNets" "regions" "LRegionNets$Regions;", Cond.fieldLink RX3 30 "RegionNets" "net" "LRegionNets$Net;", Cond.methodLink RX3 73 yJ6_bitCount_0f7a4, Cond.static yJ6_bitCount_0f7a4, Cond.initialized RJ6, Cond.code yJ6_bitCount_0f7a4 cJ6_bitCount_0f7a4 1 (some .int), Cond.constant RJ6 265 (1431655765), Cond.constant RJ6 266 (858993459), Cond.constant RJ6 267 (252645135)]
def wsL_rename : List Cond := .codeWith yL_rename cL_rename 5 (some .int) [(0, 10, 13, 19), (0, 10, 17, 13)] :: ((wsL_rename_r1 ++ (wsL_rename_r2 ++ wsL_rename_r3)) ++ wsX30 ++ wsX20 ++ wsX10 ++ wsX00 ++ (vx_atS RX3 42 "java/lang/IllegalStateException" ["java/lang/RuntimeException", "java/lang/Exception"]).filter goodWord ++ (vx_atS RX3 151 "java/lang/IndexOutOfBoundsException" ["java/lang/RuntimeException", "java/lang/Exception"]).filter goodWord)
def wsL_target : List Cond := .codeWith yL_target cL_target 5 (some .int) [(0, 10, 13, 19)] :: ([.classLink RL 19 "java/lang/IndexOutOfBoundsException", .methodLink RL 29 yX3_target, .instanceMethod yX3_target, .selects RX3 yX3_target yX3_target, .initialized RX3, .code yX3_target cX3_target 3 (some .int), .fieldLink RX3 10 "RegionNets" "steps" "LRegionNets$Steps;", .methodLink RX3 48 yX3_needState, .instanceMethod yX3_needState, .selects RX3 yX3_needState yX3_needState, .code yX3_needState cX3_needState 2 none, .classLink RX3 147 "java/lang/IndexOutOfBoundsException", .initialized "java/lang/IndexOutOfBoundsException", .methodLink RX3 52 yX3_needLabel, .static yX3_needLabel, .code yX3_needLabel cX3_needLabel 1 none, .methodLink RX3 55 yX2_end, .instanceMethod yX2_end, .selects RX2 yX2_end yX2_end, .initialized RX2, .code yX2_end cX2_end 3 (some .int), .fieldLink RX2 17 "RegionNets$Steps" "ends" "[[I"] ++ wsX30 ++ wsX20 ++ (vx_atS RX3 151 "java/lang/IndexOutOfBoundsException" ["java/lang/RuntimeException", "java/lang/Exception"]).filter goodWord)
def wsL_enabled : List Cond := .codeWith yL_enabled cL_enabled 4 (some .int) [(0, 9, 12, 19)] :: ([.classLink RL 19 "java/lang/IndexOutOfBoundsException", .methodLink RL 32 yX3_enabled, .instanceMethod yX3_enabled, .selects RX3 yX3_enabled yX3_enabled, .initialized RX3, .code yX3_enabled cX3_enabled 4 (some .int), .fieldLink RX3 10 "RegionNets" "steps" "LRegionNets$Steps;", .methodLink RX3 48 yX3_needState, .instanceMethod yX3_needState, .selects RX3 yX3_needState yX3_needState, .code yX3_needState cX3_needState 2 none, .classLink RX3 147 "java/lang/IndexOutOfBoundsException", .initialized "java/lang/IndexOutOfBoundsException", .methodLink RX3 55 yX2_end, .instanceMethod yX2_end, .selects RX2 yX2_end yX2_end, .initialized RX2, .code yX2_end cX2_end 3 (some .int), .fieldLink RX2 17 "RegionNets$Steps" "ends" "[[I"] ++ wsX30 ++ wsX20 ++ (vx_atS RX3 151 "java/lang/IndexOutOfBoundsException" ["java/lang/RuntimeException", "java/lang/Exception"]).filter goodWord)
def wsL_distance_r1 : List Cond := [Cond.classLink RL 19 "java/lang/IndexOutOfBoundsException", Cond.methodLink RL 36 yX3_distance, Cond.instanceMethod yX3_distance, Cond.selects RX3 yX3_distance yX3_distance, Cond.initialized RX3, Cond.code yX3_distance cX3_distance 2 (some .int), Cond.fieldLink RX3 10 "RegionNets" "steps" "LRegionNets$Steps;", Cond.methodLink RX3 48 yX3_needState, Cond.instanceMethod yX3_needState, Cond.selects RX3 yX3_needState yX3_needState, Cond.code yX3_needState cX3_needState 2 none, Cond.classLink RX3 147 "java/lang/IndexOutOfBoundsException", Cond.initialized "java/lang/IndexOutOfBoundsException", Cond.methodLink RX3 82 yX2_distanceTo, Cond.instanceMethod yX2_distanceTo, Cond.selects RX2 yX2_distanceTo yX2_distanceTo, Cond.initialized RX2, Cond.code yX2_distanceTo cX2_distanceTo 4 (some .int), Cond.fieldLink RX2 9 "RegionNets$Steps" "states" "I", Cond.static yX3_has, Cond.code yX3_has cX3_has 2 (some .boolean), Cond.methodLink RX2 62 yX2_nextStates, Cond.instanceMethod yX2_nextStates, Cond.selects RX2 yX2_nextStates yX2_nextStates]
def wsL_distance_r2 : List Cond := [Cond.code yX2_nextStates cX2_nextStates 6 (some .int), Cond.fieldLink RX2 17 "RegionNets$Steps" "ends" "[[I"]
def wsL_distance : List Cond := .codeWith yL_distance cL_distance 4 (some .int) [(0, 9, 12, 19)] :: ((wsL_distance_r1 ++ wsL_distance_r2) ++ wsX30 ++ wsX20 ++ (vx_atS RX3 151 "java/lang/IndexOutOfBoundsException" ["java/lang/RuntimeException", "java/lang/Exception"]).filter goodWord)
def wsL_crossing_r1 : List Cond := [Cond.classLink RL 42 "java/lang/IllegalArgumentException", Cond.classLink RL 19 "java/lang/IndexOutOfBoundsException", Cond.methodLink RL 39 yX3_crossing, Cond.instanceMethod yX3_crossing, Cond.selects RX3 yX3_crossing yX3_crossing, Cond.initialized RX3, Cond.code yX3_crossing cX3_crossing 3 (some .int), Cond.fieldLink RX3 10 "RegionNets" "steps" "LRegionNets$Steps;", Cond.methodLink RX3 85 yX3_needSet, Cond.instanceMethod yX3_needSet, Cond.selects RX3 yX3_needSet yX3_needSet, Cond.code yX3_needSet cX3_needSet 2 none, Cond.classLink RX3 198 "java/lang/IllegalArgumentException", Cond.initialized "java/lang/IllegalArgumentException", Cond.methodLink RX3 195 yX2_all, Cond.instanceMethod yX2_all, Cond.selects RX2 yX2_all yX2_all, Cond.initialized RX2, Cond.code yX2_all cX2_all 1 (some .int), Cond.fieldLink RX2 9 "RegionNets$Steps" "states" "I", Cond.methodLink RX3 52 yX3_needLabel, Cond.static yX3_needLabel, Cond.code yX3_needLabel cX3_needLabel 1 none, Cond.classLink RX3 147 "java/lang/IndexOutOfBoundsException"]
def wsL_crossing_r2 : List Cond := [Cond.initialized "java/lang/IndexOutOfBoundsException", Cond.methodLink RX3 88 yX2_way, Cond.instanceMethod yX2_way, Cond.selects RX2 yX2_way yX2_way, Cond.code yX2_way cX2_way 6 (some .int), Cond.fieldLink RX2 20 "RegionNets$Steps" "begins" "[I", Cond.methodLink RX2 46 yX2_sourcesOf, Cond.instanceMethod yX2_sourcesOf, Cond.selects RX2 yX2_sourcesOf yX2_sourcesOf, Cond.code yX2_sourcesOf cX2_sourcesOf 3 (some .int), Cond.fieldLink RX2 24 "RegionNets$Steps" "lowSources" "[[I", Cond.fieldLink RX2 27 "RegionNets$Steps" "highSources" "[[I"]
def wsL_crossing : List Cond := .codeWith yL_crossing cL_crossing 5 (some .int) [(0, 10, 13, 42), (0, 10, 17, 19)] :: ((wsL_crossing_r1 ++ wsL_crossing_r2) ++ wsX30 ++ wsX20 ++ (vx_atS RX3 202 "java/lang/IllegalArgumentException" ["java/lang/RuntimeException", "java/lang/Exception"]).filter goodWord ++ (vx_atS RX3 151 "java/lang/IndexOutOfBoundsException" ["java/lang/RuntimeException", "java/lang/Exception"]).filter goodWord)
def wsL_isRegion_r1 : List Cond := [Cond.classLink RL 42 "java/lang/IllegalArgumentException", Cond.methodLink RL 44 yX3_isRegion, Cond.instanceMethod yX3_isRegion, Cond.selects RX3 yX3_isRegion yX3_isRegion, Cond.initialized RX3, Cond.code yX3_isRegion cX3_isRegion 2 (some .boolean), Cond.fieldLink RX3 21 "RegionNets" "regions" "LRegionNets$Regions;", Cond.methodLink RX3 85 yX3_needSet, Cond.instanceMethod yX3_needSet, Cond.selects RX3 yX3_needSet yX3_needSet, Cond.code yX3_needSet cX3_needSet 2 none, Cond.classLink RX3 198 "java/lang/IllegalArgumentException", Cond.initialized "java/lang/IllegalArgumentException", Cond.fieldLink RX3 10 "RegionNets" "steps" "LRegionNets$Steps;", Cond.methodLink RX3 195 yX2_all, Cond.instanceMethod yX2_all, Cond.selects RX2 yX2_all yX2_all, Cond.initialized RX2, Cond.code yX2_all cX2_all 1 (some .int), Cond.fieldLink RX2 9 "RegionNets$Steps" "states" "I", Cond.methodLink RX3 91 yX1_isOne, Cond.instanceMethod yX1_isOne, Cond.selects RX1 yX1_isOne yX1_isOne, Cond.initialized RX1]
def wsL_isRegion_r2 : List Cond := [Cond.code yX1_isOne cX1_isOne 2 (some .boolean), Cond.fieldLink RX1 9 "RegionNets$Regions" "steps" "LRegionNets$Steps;", Cond.methodLink RX1 19 yX2_all, Cond.methodLink RX1 25 yX2_firstMixed, Cond.instanceMethod yX2_firstMixed, Cond.selects RX2 yX2_firstMixed yX2_firstMixed, Cond.code yX2_firstMixed cX2_firstMixed 3 (some .int), Cond.methodLink RX2 49 yX2_way, Cond.instanceMethod yX2_way, Cond.selects RX2 yX2_way yX2_way, Cond.code yX2_way cX2_way 6 (some .int), Cond.fieldLink RX2 20 "RegionNets$Steps" "begins" "[I", Cond.methodLink RX2 46 yX2_sourcesOf, Cond.instanceMethod yX2_sourcesOf, Cond.selects RX2 yX2_sourcesOf yX2_sourcesOf, Cond.code yX2_sourcesOf cX2_sourcesOf 3 (some .int), Cond.fieldLink RX2 24 "RegionNets$Steps" "lowSources" "[[I", Cond.fieldLink RX2 27 "RegionNets$Steps" "highSources" "[[I"]
def wsL_isRegion : List Cond := .codeWith yL_isRegion cL_isRegion 4 (some .int) [(0, 16, 19, 42)] :: ((wsL_isRegion_r1 ++ wsL_isRegion_r2) ++ wsX30 ++ wsX20 ++ wsX10 ++ (vx_atS RX3 202 "java/lang/IllegalArgumentException" ["java/lang/RuntimeException", "java/lang/Exception"]).filter goodWord)
def wsL_region_r1 : List Cond := [Cond.classLink RL 19 "java/lang/IndexOutOfBoundsException", Cond.methodLink RL 48 yX3_region, Cond.instanceMethod yX3_region, Cond.selects RX3 yX3_region yX3_region, Cond.initialized RX3, Cond.code yX3_region cX3_region 2 (some .int), Cond.fieldLink RX3 21 "RegionNets" "regions" "LRegionNets$Regions;", Cond.methodLink RX3 98 yX3_needRegion, Cond.instanceMethod yX3_needRegion, Cond.selects RX3 yX3_needRegion yX3_needRegion, Cond.code yX3_needRegion cX3_needRegion 2 none, Cond.classLink RX3 147 "java/lang/IndexOutOfBoundsException", Cond.initialized "java/lang/IndexOutOfBoundsException", Cond.methodLink RX3 95 yX1_count, Cond.instanceMethod yX1_count, Cond.selects RX1 yX1_count yX1_count, Cond.initialized RX1, Cond.code yX1_count cX1_count 1 (some .int), Cond.fieldLink RX1 29 "RegionNets$Regions" "known" "Z", Cond.fieldLink RX1 36 "RegionNets$Regions" "count" "I", Cond.methodLink RX1 33 yX1_search, Cond.instanceMethod yX1_search, Cond.selects RX1 yX1_search yX1_search, Cond.code yX1_search cX1_search 3 none]
def wsL_region_r2 : List Cond := [Cond.fieldLink RX1 9 "RegionNets$Regions" "steps" "LRegionNets$Steps;", Cond.fieldLink RX1 15 "RegionNets$Regions" "sets" "[I", Cond.methodLink RX1 19 yX2_all, Cond.instanceMethod yX2_all, Cond.selects RX2 yX2_all yX2_all, Cond.initialized RX2, Cond.code yX2_all cX2_all 1 (some .int), Cond.fieldLink RX2 9 "RegionNets$Steps" "states" "I", Cond.methodLink RX1 25 yX2_firstMixed, Cond.instanceMethod yX2_firstMixed, Cond.selects RX2 yX2_firstMixed yX2_firstMixed, Cond.code yX2_firstMixed cX2_firstMixed 3 (some .int), Cond.methodLink RX2 49 yX2_way, Cond.instanceMethod yX2_way, Cond.selects RX2 yX2_way yX2_way, Cond.code yX2_way cX2_way 6 (some .int), Cond.fieldLink RX2 20 "RegionNets$Steps" "begins" "[I", Cond.methodLink RX2 46 yX2_sourcesOf, Cond.instanceMethod yX2_sourcesOf, Cond.selects RX2 yX2_sourcesOf yX2_sourcesOf, Cond.code yX2_sourcesOf cX2_sourcesOf 3 (some .int), Cond.fieldLink RX2 24 "RegionNets$Steps" "lowSources" "[[I", Cond.fieldLink RX2 27 "RegionNets$Steps" "highSources" "[[I", Cond.methodLink RX3 101 yX1_at]
def wsL_region_r3 : List Cond := [Cond.instanceMethod yX1_at, Cond.selects RX1 yX1_at yX1_at, Cond.code yX1_at cX1_at 2 (some .int)]
def wsL_region : List Cond := .codeWith yL_region cL_region 4 (some .int) [(0, 9, 12, 19)] :: ((wsL_region_r1 ++ (wsL_region_r2 ++ wsL_region_r3)) ++ wsX30 ++ wsX10 ++ wsX20 ++ (vx_atS RX3 151 "java/lang/IndexOutOfBoundsException" ["java/lang/RuntimeException", "java/lang/Exception"]).filter goodWord)
def wsL_isLeast_r1 : List Cond := [Cond.classLink RL 19 "java/lang/IndexOutOfBoundsException", Cond.methodLink RL 51 yX3_isLeast, Cond.instanceMethod yX3_isLeast, Cond.selects RX3 yX3_isLeast yX3_isLeast, Cond.initialized RX3, Cond.code yX3_isLeast cX3_isLeast 2 (some .boolean), Cond.fieldLink RX3 21 "RegionNets" "regions" "LRegionNets$Regions;", Cond.methodLink RX3 98 yX3_needRegion, Cond.instanceMethod yX3_needRegion, Cond.selects RX3 yX3_needRegion yX3_needRegion, Cond.code yX3_needRegion cX3_needRegion 2 none, Cond.classLink RX3 147 "java/lang/IndexOutOfBoundsException", Cond.initialized "java/lang/IndexOutOfBoundsException", Cond.methodLink RX3 95 yX1_count, Cond.instanceMethod yX1_count, Cond.selects RX1 yX1_count yX1_count, Cond.initialized RX1, Cond.code yX1_count cX1_count 1 (some .int), Cond.fieldLink RX1 29 "RegionNets$Regions" "known" "Z", Cond.fieldLink RX1 36 "RegionNets$Regions" "count" "I", Cond.methodLink RX1 33 yX1_search, Cond.instanceMethod yX1_search, Cond.selects RX1 yX1_search yX1_search, Cond.code yX1_search cX1_search 3 none]
def wsL_isLeast_r2 : List Cond := [Cond.fieldLink RX1 9 "RegionNets$Regions" "steps" "LRegionNets$Steps;", Cond.fieldLink RX1 15 "RegionNets$Regions" "sets" "[I", Cond.methodLink RX1 19 yX2_all, Cond.instanceMethod yX2_all, Cond.selects RX2 yX2_all yX2_all, Cond.initialized RX2, Cond.code yX2_all cX2_all 1 (some .int), Cond.fieldLink RX2 9 "RegionNets$Steps" "states" "I", Cond.methodLink RX1 25 yX2_firstMixed, Cond.instanceMethod yX2_firstMixed, Cond.selects RX2 yX2_firstMixed yX2_firstMixed, Cond.code yX2_firstMixed cX2_firstMixed 3 (some .int), Cond.methodLink RX2 49 yX2_way, Cond.instanceMethod yX2_way, Cond.selects RX2 yX2_way yX2_way, Cond.code yX2_way cX2_way 6 (some .int), Cond.fieldLink RX2 20 "RegionNets$Steps" "begins" "[I", Cond.methodLink RX2 46 yX2_sourcesOf, Cond.instanceMethod yX2_sourcesOf, Cond.selects RX2 yX2_sourcesOf yX2_sourcesOf, Cond.code yX2_sourcesOf cX2_sourcesOf 3 (some .int), Cond.fieldLink RX2 24 "RegionNets$Steps" "lowSources" "[[I", Cond.fieldLink RX2 27 "RegionNets$Steps" "highSources" "[[I", Cond.methodLink RX3 104 yX1_hasNoPart]
def wsL_isLeast_r3 : List Cond := [Cond.instanceMethod yX1_hasNoPart, Cond.selects RX1 yX1_hasNoPart yX1_hasNoPart, Cond.code yX1_hasNoPart cX1_hasNoPart 3 (some .boolean)]
def wsL_isLeast : List Cond := .codeWith yL_isLeast cL_isLeast 4 (some .int) [(0, 16, 19, 19)] :: ((wsL_isLeast_r1 ++ (wsL_isLeast_r2 ++ wsL_isLeast_r3)) ++ wsX30 ++ wsX10 ++ wsX20 ++ (vx_atS RX3 151 "java/lang/IndexOutOfBoundsException" ["java/lang/RuntimeException", "java/lang/Exception"]).filter goodWord)
def wsL_grow_r1 : List Cond := [Cond.classLink RL 42 "java/lang/IllegalArgumentException", Cond.methodLink RL 54 yX3_grow, Cond.instanceMethod yX3_grow, Cond.selects RX3 yX3_grow yX3_grow, Cond.initialized RX3, Cond.code yX3_grow cX3_grow 2 (some .int), Cond.fieldLink RX3 10 "RegionNets" "steps" "LRegionNets$Steps;", Cond.methodLink RX3 85 yX3_needSet, Cond.instanceMethod yX3_needSet, Cond.selects RX3 yX3_needSet yX3_needSet, Cond.code yX3_needSet cX3_needSet 2 none, Cond.classLink RX3 198 "java/lang/IllegalArgumentException", Cond.initialized "java/lang/IllegalArgumentException", Cond.methodLink RX3 195 yX2_all, Cond.instanceMethod yX2_all, Cond.selects RX2 yX2_all yX2_all, Cond.initialized RX2, Cond.code yX2_all cX2_all 1 (some .int), Cond.fieldLink RX2 9 "RegionNets$Steps" "states" "I", Cond.methodLink RX3 107 yX2_grown, Cond.instanceMethod yX2_grown, Cond.selects RX2 yX2_grown yX2_grown, Cond.code yX2_grown cX2_grown 5 (some .int), Cond.methodLink RX2 52 yX2_firstMixed]
def wsL_grow_r2 : List Cond := [Cond.instanceMethod yX2_firstMixed, Cond.selects RX2 yX2_firstMixed yX2_firstMixed, Cond.code yX2_firstMixed cX2_firstMixed 3 (some .int), Cond.methodLink RX2 49 yX2_way, Cond.instanceMethod yX2_way, Cond.selects RX2 yX2_way yX2_way, Cond.code yX2_way cX2_way 6 (some .int), Cond.fieldLink RX2 20 "RegionNets$Steps" "begins" "[I", Cond.methodLink RX2 46 yX2_sourcesOf, Cond.instanceMethod yX2_sourcesOf, Cond.selects RX2 yX2_sourcesOf yX2_sourcesOf, Cond.code yX2_sourcesOf cX2_sourcesOf 3 (some .int), Cond.fieldLink RX2 24 "RegionNets$Steps" "lowSources" "[[I", Cond.fieldLink RX2 27 "RegionNets$Steps" "highSources" "[[I", Cond.methodLink RX2 56 yX2_growth, Cond.instanceMethod yX2_growth, Cond.selects RX2 yX2_growth yX2_growth, Cond.code yX2_growth cX2_growth 6 (some .int), Cond.methodLink RX2 59 yX2_endsOf, Cond.instanceMethod yX2_endsOf, Cond.selects RX2 yX2_endsOf yX2_endsOf, Cond.code yX2_endsOf cX2_endsOf 5 (some .int), Cond.fieldLink RX2 17 "RegionNets$Steps" "ends" "[[I"]
def wsL_grow : List Cond := .codeWith yL_grow cL_grow 4 (some .int) [(0, 9, 12, 42)] :: ((wsL_grow_r1 ++ wsL_grow_r2) ++ wsX30 ++ wsX20 ++ (vx_atS RX3 202 "java/lang/IllegalArgumentException" ["java/lang/RuntimeException", "java/lang/Exception"]).filter goodWord)
def wsL_apart_r1 : List Cond := [Cond.classLink RL 19 "java/lang/IndexOutOfBoundsException", Cond.methodLink RL 57 yX3_apart, Cond.instanceMethod yX3_apart, Cond.selects RX3 yX3_apart yX3_apart, Cond.initialized RX3, Cond.code yX3_apart cX3_apart 3 (some .int), Cond.fieldLink RX3 21 "RegionNets" "regions" "LRegionNets$Regions;", Cond.methodLink RX3 48 yX3_needState, Cond.instanceMethod yX3_needState, Cond.selects RX3 yX3_needState yX3_needState, Cond.code yX3_needState cX3_needState 2 none, Cond.classLink RX3 147 "java/lang/IndexOutOfBoundsException", Cond.initialized "java/lang/IndexOutOfBoundsException", Cond.fieldLink RX3 10 "RegionNets" "steps" "LRegionNets$Steps;", Cond.methodLink RX3 110 yX1_firstApart, Cond.instanceMethod yX1_firstApart, Cond.selects RX1 yX1_firstApart yX1_firstApart, Cond.initialized RX1, Cond.code yX1_firstApart cX1_firstApart 5 (some .int), Cond.fieldLink RX1 15 "RegionNets$Regions" "sets" "[I", Cond.methodLink RX1 40 yX1_count, Cond.instanceMethod yX1_count, Cond.selects RX1 yX1_count yX1_count, Cond.code yX1_count cX1_count 1 (some .int)]
def wsL_apart_r2 : List Cond := [Cond.fieldLink RX1 29 "RegionNets$Regions" "known" "Z", Cond.fieldLink RX1 36 "RegionNets$Regions" "count" "I", Cond.methodLink RX1 33 yX1_search, Cond.instanceMethod yX1_search, Cond.selects RX1 yX1_search yX1_search, Cond.code yX1_search cX1_search 3 none, Cond.fieldLink RX1 9 "RegionNets$Regions" "steps" "LRegionNets$Steps;", Cond.methodLink RX1 19 yX2_all, Cond.instanceMethod yX2_all, Cond.selects RX2 yX2_all yX2_all, Cond.initialized RX2, Cond.code yX2_all cX2_all 1 (some .int), Cond.fieldLink RX2 9 "RegionNets$Steps" "states" "I", Cond.methodLink RX1 25 yX2_firstMixed, Cond.instanceMethod yX2_firstMixed, Cond.selects RX2 yX2_firstMixed yX2_firstMixed, Cond.code yX2_firstMixed cX2_firstMixed 3 (some .int), Cond.methodLink RX2 49 yX2_way, Cond.instanceMethod yX2_way, Cond.selects RX2 yX2_way yX2_way, Cond.code yX2_way cX2_way 6 (some .int), Cond.fieldLink RX2 20 "RegionNets$Steps" "begins" "[I", Cond.methodLink RX2 46 yX2_sourcesOf, Cond.instanceMethod yX2_sourcesOf]
def wsL_apart_r3 : List Cond := [Cond.selects RX2 yX2_sourcesOf yX2_sourcesOf, Cond.code yX2_sourcesOf cX2_sourcesOf 3 (some .int), Cond.fieldLink RX2 24 "RegionNets$Steps" "lowSources" "[[I", Cond.fieldLink RX2 27 "RegionNets$Steps" "highSources" "[[I", Cond.static yX3_has, Cond.code yX3_has cX3_has 2 (some .boolean)]
def wsL_apart : List Cond := .codeWith yL_apart cL_apart 5 (some .int) [(0, 10, 13, 19)] :: ((wsL_apart_r1 ++ (wsL_apart_r2 ++ wsL_apart_r3)) ++ wsX30 ++ wsX20 ++ wsX10 ++ (vx_atS RX3 151 "java/lang/IndexOutOfBoundsException" ["java/lang/RuntimeException", "java/lang/Exception"]).filter goodWord)
def wsL_preventer_r1 : List Cond := [Cond.classLink RL 19 "java/lang/IndexOutOfBoundsException", Cond.methodLink RL 60 yX3_preventer, Cond.instanceMethod yX3_preventer, Cond.selects RX3 yX3_preventer yX3_preventer, Cond.initialized RX3, Cond.code yX3_preventer cX3_preventer 3 (some .int), Cond.fieldLink RX3 10 "RegionNets" "steps" "LRegionNets$Steps;", Cond.fieldLink RX3 21 "RegionNets" "regions" "LRegionNets$Regions;", Cond.methodLink RX3 48 yX3_needState, Cond.instanceMethod yX3_needState, Cond.selects RX3 yX3_needState yX3_needState, Cond.code yX3_needState cX3_needState 2 none, Cond.classLink RX3 147 "java/lang/IndexOutOfBoundsException", Cond.initialized "java/lang/IndexOutOfBoundsException", Cond.methodLink RX3 52 yX3_needLabel, Cond.static yX3_needLabel, Cond.code yX3_needLabel cX3_needLabel 1 none, Cond.methodLink RX3 55 yX2_end, Cond.instanceMethod yX2_end, Cond.selects RX2 yX2_end yX2_end, Cond.initialized RX2, Cond.code yX2_end cX2_end 3 (some .int), Cond.fieldLink RX2 17 "RegionNets$Steps" "ends" "[[I", Cond.methodLink RX3 113 yX1_firstPreventing]
def wsL_preventer_r2 : List Cond := [Cond.instanceMethod yX1_firstPreventing, Cond.selects RX1 yX1_firstPreventing yX1_firstPreventing, Cond.initialized RX1, Cond.code yX1_firstPreventing cX1_firstPreventing 5 (some .int), Cond.fieldLink RX1 15 "RegionNets$Regions" "sets" "[I", Cond.methodLink RX1 40 yX1_count, Cond.instanceMethod yX1_count, Cond.selects RX1 yX1_count yX1_count, Cond.code yX1_count cX1_count 1 (some .int), Cond.fieldLink RX1 29 "RegionNets$Regions" "known" "Z", Cond.fieldLink RX1 36 "RegionNets$Regions" "count" "I", Cond.methodLink RX1 33 yX1_search, Cond.instanceMethod yX1_search, Cond.selects RX1 yX1_search yX1_search, Cond.code yX1_search cX1_search 3 none, Cond.fieldLink RX1 9 "RegionNets$Regions" "steps" "LRegionNets$Steps;", Cond.methodLink RX1 19 yX2_all, Cond.instanceMethod yX2_all, Cond.selects RX2 yX2_all yX2_all, Cond.code yX2_all cX2_all 1 (some .int), Cond.fieldLink RX2 9 "RegionNets$Steps" "states" "I", Cond.methodLink RX1 25 yX2_firstMixed, Cond.instanceMethod yX2_firstMixed, Cond.selects RX2 yX2_firstMixed yX2_firstMixed]
def wsL_preventer_r3 : List Cond := [Cond.code yX2_firstMixed cX2_firstMixed 3 (some .int), Cond.methodLink RX2 49 yX2_way, Cond.instanceMethod yX2_way, Cond.selects RX2 yX2_way yX2_way, Cond.code yX2_way cX2_way 6 (some .int), Cond.fieldLink RX2 20 "RegionNets$Steps" "begins" "[I", Cond.methodLink RX2 46 yX2_sourcesOf, Cond.instanceMethod yX2_sourcesOf, Cond.selects RX2 yX2_sourcesOf yX2_sourcesOf, Cond.code yX2_sourcesOf cX2_sourcesOf 3 (some .int), Cond.fieldLink RX2 24 "RegionNets$Steps" "lowSources" "[[I", Cond.fieldLink RX2 27 "RegionNets$Steps" "highSources" "[[I", Cond.methodLink RX1 46 yX1_prevents, Cond.instanceMethod yX1_prevents, Cond.selects RX1 yX1_prevents yX1_prevents, Cond.code yX1_prevents cX1_prevents 5 (some .boolean), Cond.methodLink RX1 50 yX2_way, Cond.static yX3_has, Cond.code yX3_has cX3_has 2 (some .boolean)]
def wsL_preventer : List Cond := .codeWith yL_preventer cL_preventer 5 (some .int) [(0, 10, 13, 19)] :: ((wsL_preventer_r1 ++ (wsL_preventer_r2 ++ wsL_preventer_r3)) ++ wsX30 ++ wsX20 ++ wsX10 ++ (vx_atS RX3 151 "java/lang/IndexOutOfBoundsException" ["java/lang/RuntimeException", "java/lang/Exception"]).filter goodWord)
def wsL_placeRegion : List Cond := .codeWith yL_placeRegion cL_placeRegion 4 (some .int) [(0, 9, 12, 13), (0, 9, 15, 19)] :: ([.classLink RL 13 "java/lang/IllegalStateException", .classLink RL 19 "java/lang/IndexOutOfBoundsException", .methodLink RL 63 yX3_placeRegion, .instanceMethod yX3_placeRegion, .selects RX3 yX3_placeRegion yX3_placeRegion, .initialized RX3, .code yX3_placeRegion cX3_placeRegion 2 (some .int), .classLink RX3 147 "java/lang/IndexOutOfBoundsException", .initialized "java/lang/IndexOutOfBoundsException", .fieldLink RX3 30 "RegionNets" "net" "LRegionNets$Net;", .methodLink RX3 144 yX3_needNet, .instanceMethod yX3_needNet, .selects RX3 yX3_needNet yX3_needNet, .code yX3_needNet cX3_needNet 1 none, .classLink RX3 38 "java/lang/IllegalStateException", .initialized "java/lang/IllegalStateException", .methodLink RX3 152 yX0_regionOf, .instanceMethod yX0_regionOf, .selects RX0 yX0_regionOf yX0_regionOf, .initialized RX0, .code yX0_regionOf cX0_regionOf 2 (some .int), .fieldLink RX0 19 "RegionNets$Net" "placeSets" "[I"] ++ wsX30 ++ wsX00 ++ (vx_atS RX3 151 "java/lang/IndexOutOfBoundsException" ["java/lang/RuntimeException", "java/lang/Exception"]).filter goodWord ++ (vx_atS RX3 42 "java/lang/IllegalStateException" ["java/lang/RuntimeException", "java/lang/Exception"]).filter goodWord)
def wsL_consumed_r1 : List Cond := [Cond.classLink RL 13 "java/lang/IllegalStateException", Cond.classLink RL 19 "java/lang/IndexOutOfBoundsException", Cond.methodLink RL 66 yX3_consumed, Cond.instanceMethod yX3_consumed, Cond.selects RX3 yX3_consumed yX3_consumed, Cond.initialized RX3, Cond.code yX3_consumed cX3_consumed 2 (some .int), Cond.fieldLink RX3 30 "RegionNets" "net" "LRegionNets$Net;", Cond.methodLink RX3 144 yX3_needNet, Cond.instanceMethod yX3_needNet, Cond.selects RX3 yX3_needNet yX3_needNet, Cond.code yX3_needNet cX3_needNet 1 none, Cond.classLink RX3 38 "java/lang/IllegalStateException", Cond.initialized "java/lang/IllegalStateException", Cond.methodLink RX3 52 yX3_needLabel, Cond.static yX3_needLabel, Cond.code yX3_needLabel cX3_needLabel 1 none, Cond.classLink RX3 147 "java/lang/IndexOutOfBoundsException", Cond.initialized "java/lang/IndexOutOfBoundsException", Cond.methodLink RX3 155 yX0_takenBy, Cond.instanceMethod yX0_takenBy, Cond.selects RX0 yX0_takenBy yX0_takenBy, Cond.initialized RX0, Cond.code yX0_takenBy cX0_takenBy 2 (some .int)]
def wsL_consumed_r2 : List Cond := [Cond.fieldLink RX0 23 "RegionNets$Net" "takes" "[I"]
def wsL_consumed : List Cond := .codeWith yL_consumed cL_consumed 4 (some .int) [(0, 9, 12, 13), (0, 9, 15, 19)] :: ((wsL_consumed_r1 ++ wsL_consumed_r2) ++ wsX30 ++ wsX00 ++ (vx_atS RX3 42 "java/lang/IllegalStateException" ["java/lang/RuntimeException", "java/lang/Exception"]).filter goodWord ++ (vx_atS RX3 151 "java/lang/IndexOutOfBoundsException" ["java/lang/RuntimeException", "java/lang/Exception"]).filter goodWord)
def wsL_produced_r1 : List Cond := [Cond.classLink RL 13 "java/lang/IllegalStateException", Cond.classLink RL 19 "java/lang/IndexOutOfBoundsException", Cond.methodLink RL 69 yX3_produced, Cond.instanceMethod yX3_produced, Cond.selects RX3 yX3_produced yX3_produced, Cond.initialized RX3, Cond.code yX3_produced cX3_produced 2 (some .int), Cond.fieldLink RX3 30 "RegionNets" "net" "LRegionNets$Net;", Cond.methodLink RX3 144 yX3_needNet, Cond.instanceMethod yX3_needNet, Cond.selects RX3 yX3_needNet yX3_needNet, Cond.code yX3_needNet cX3_needNet 1 none, Cond.classLink RX3 38 "java/lang/IllegalStateException", Cond.initialized "java/lang/IllegalStateException", Cond.methodLink RX3 52 yX3_needLabel, Cond.static yX3_needLabel, Cond.code yX3_needLabel cX3_needLabel 1 none, Cond.classLink RX3 147 "java/lang/IndexOutOfBoundsException", Cond.initialized "java/lang/IndexOutOfBoundsException", Cond.methodLink RX3 158 yX0_givenBy, Cond.instanceMethod yX0_givenBy, Cond.selects RX0 yX0_givenBy yX0_givenBy, Cond.initialized RX0, Cond.code yX0_givenBy cX0_givenBy 2 (some .int)]
def wsL_produced_r2 : List Cond := [Cond.fieldLink RX0 26 "RegionNets$Net" "gives" "[I"]
def wsL_produced : List Cond := .codeWith yL_produced cL_produced 4 (some .int) [(0, 9, 12, 13), (0, 9, 15, 19)] :: ((wsL_produced_r1 ++ wsL_produced_r2) ++ wsX30 ++ wsX00 ++ (vx_atS RX3 42 "java/lang/IllegalStateException" ["java/lang/RuntimeException", "java/lang/Exception"]).filter goodWord ++ (vx_atS RX3 151 "java/lang/IndexOutOfBoundsException" ["java/lang/RuntimeException", "java/lang/Exception"]).filter goodWord)
def wsL_marking : List Cond := .codeWith yL_marking cL_marking 3 (some .int) [(0, 8, 11, 13)] :: ([.classLink RL 13 "java/lang/IllegalStateException", .methodLink RL 72 yX3_marking, .instanceMethod yX3_marking, .selects RX3 yX3_marking yX3_marking, .initialized RX3, .code yX3_marking cX3_marking 1 (some .int), .fieldLink RX3 30 "RegionNets" "net" "LRegionNets$Net;", .methodLink RX3 144 yX3_needNet, .instanceMethod yX3_needNet, .selects RX3 yX3_needNet yX3_needNet, .code yX3_needNet cX3_needNet 1 none, .classLink RX3 38 "java/lang/IllegalStateException", .initialized "java/lang/IllegalStateException"] ++ wsX30 ++ wsX00 ++ (vx_atS RX3 42 "java/lang/IllegalStateException" ["java/lang/RuntimeException", "java/lang/Exception"]).filter goodWord)
def wsL_fire_r1 : List Cond := [Cond.classLink RL 13 "java/lang/IllegalStateException", Cond.classLink RL 19 "java/lang/IndexOutOfBoundsException", Cond.methodLink RL 75 yX3_fire, Cond.instanceMethod yX3_fire, Cond.selects RX3 yX3_fire yX3_fire, Cond.initialized RX3, Cond.code yX3_fire cX3_fire 2 (some .int), Cond.fieldLink RX3 30 "RegionNets" "net" "LRegionNets$Net;", Cond.methodLink RX3 144 yX3_needNet, Cond.instanceMethod yX3_needNet, Cond.selects RX3 yX3_needNet yX3_needNet, Cond.code yX3_needNet cX3_needNet 1 none, Cond.classLink RX3 38 "java/lang/IllegalStateException", Cond.initialized "java/lang/IllegalStateException", Cond.methodLink RX3 52 yX3_needLabel, Cond.static yX3_needLabel, Cond.code yX3_needLabel cX3_needLabel 1 none, Cond.classLink RX3 147 "java/lang/IndexOutOfBoundsException", Cond.initialized "java/lang/IndexOutOfBoundsException", Cond.methodLink RX3 161 yX0_canFire, Cond.instanceMethod yX0_canFire, Cond.selects RX0 yX0_canFire yX0_canFire, Cond.initialized RX0, Cond.code yX0_canFire cX0_canFire 3 (some .boolean)]
def wsL_fire_r2 : List Cond := [Cond.fieldLink RX0 9 "RegionNets$Net" "steps" "LRegionNets$Steps;", Cond.fieldLink RX0 23 "RegionNets$Net" "takes" "[I", Cond.fieldLink RX0 26 "RegionNets$Net" "gives" "[I", Cond.methodLink RX0 79 yX2_beginning, Cond.instanceMethod yX2_beginning, Cond.selects RX2 yX2_beginning yX2_beginning, Cond.initialized RX2, Cond.code yX2_beginning cX2_beginning 2 (some .int), Cond.fieldLink RX2 20 "RegionNets$Steps" "begins" "[I", Cond.methodLink RX3 165 yX0_behind, Cond.instanceMethod yX0_behind, Cond.selects RX0 yX0_behind yX0_behind, Cond.code yX0_behind cX0_behind 3 (some .int)]
def wsL_fire : List Cond := .codeWith yL_fire cL_fire 4 (some .int) [(0, 9, 12, 13), (0, 9, 15, 19)] :: ((wsL_fire_r1 ++ wsL_fire_r2) ++ wsX30 ++ wsX00 ++ wsX20 ++ (vx_atS RX3 42 "java/lang/IllegalStateException" ["java/lang/RuntimeException", "java/lang/Exception"]).filter goodWord ++ (vx_atS RX3 151 "java/lang/IndexOutOfBoundsException" ["java/lang/RuntimeException", "java/lang/Exception"]).filter goodWord)
def wsL_markingCount_r1 : List Cond := [Cond.classLink RL 13 "java/lang/IllegalStateException", Cond.methodLink RL 78 yX3_markingCount, Cond.instanceMethod yX3_markingCount, Cond.selects RX3 yX3_markingCount yX3_markingCount, Cond.initialized RX3, Cond.code yX3_markingCount cX3_markingCount 1 (some .int), Cond.fieldLink RX3 30 "RegionNets" "net" "LRegionNets$Net;", Cond.methodLink RX3 144 yX3_needNet, Cond.instanceMethod yX3_needNet, Cond.selects RX3 yX3_needNet yX3_needNet, Cond.code yX3_needNet cX3_needNet 1 none, Cond.classLink RX3 38 "java/lang/IllegalStateException", Cond.initialized "java/lang/IllegalStateException", Cond.methodLink RX3 168 yX0_markingsFound, Cond.instanceMethod yX0_markingsFound, Cond.selects RX0 yX0_markingsFound yX0_markingsFound, Cond.initialized RX0, Cond.code yX0_markingsFound cX0_markingsFound 1 (some .int), Cond.fieldLink RX0 47 "RegionNets$Net" "found" "I", Cond.methodLink RX0 82 yX0_findMarkings, Cond.instanceMethod yX0_findMarkings, Cond.selects RX0 yX0_findMarkings yX0_findMarkings, Cond.code yX0_findMarkings cX0_findMarkings 3 none, Cond.fieldLink RX0 29 "RegionNets$Net" "markings" "[I"]
def wsL_markingCount_r2 : List Cond := [Cond.fieldLink RX0 43 "RegionNets$Net" "first" "I", Cond.methodLink RX0 85 yX0_canFire, Cond.instanceMethod yX0_canFire, Cond.selects RX0 yX0_canFire yX0_canFire, Cond.code yX0_canFire cX0_canFire 3 (some .boolean), Cond.fieldLink RX0 9 "RegionNets$Net" "steps" "LRegionNets$Steps;", Cond.fieldLink RX0 23 "RegionNets$Net" "takes" "[I", Cond.fieldLink RX0 26 "RegionNets$Net" "gives" "[I", Cond.methodLink RX0 79 yX2_beginning, Cond.instanceMethod yX2_beginning, Cond.selects RX2 yX2_beginning yX2_beginning, Cond.initialized RX2, Cond.code yX2_beginning cX2_beginning 2 (some .int), Cond.fieldLink RX2 20 "RegionNets$Steps" "begins" "[I", Cond.methodLink RX0 88 yX0_behind, Cond.instanceMethod yX0_behind, Cond.selects RX0 yX0_behind yX0_behind, Cond.code yX0_behind cX0_behind 3 (some .int), Cond.methodLink RX0 91 yX0_keepNew, Cond.instanceMethod yX0_keepNew, Cond.selects RX0 yX0_keepNew yX0_keepNew, Cond.code yX0_keepNew cX0_keepNew 3 none]
def wsL_markingCount : List Cond := .codeWith yL_markingCount cL_markingCount 3 (some .int) [(0, 8, 11, 13)] :: ((wsL_markingCount_r1 ++ wsL_markingCount_r2) ++ wsX30 ++ wsX00 ++ wsX20 ++ (vx_atS RX3 42 "java/lang/IllegalStateException" ["java/lang/RuntimeException", "java/lang/Exception"]).filter goodWord)
def wsL_markingAt_r1 : List Cond := [Cond.classLink RL 13 "java/lang/IllegalStateException", Cond.classLink RL 19 "java/lang/IndexOutOfBoundsException", Cond.methodLink RL 81 yX3_markingAt, Cond.instanceMethod yX3_markingAt, Cond.selects RX3 yX3_markingAt yX3_markingAt, Cond.initialized RX3, Cond.code yX3_markingAt cX3_markingAt 2 (some .int), Cond.classLink RX3 147 "java/lang/IndexOutOfBoundsException", Cond.initialized "java/lang/IndexOutOfBoundsException", Cond.fieldLink RX3 30 "RegionNets" "net" "LRegionNets$Net;", Cond.methodLink RX3 144 yX3_needNet, Cond.instanceMethod yX3_needNet, Cond.selects RX3 yX3_needNet yX3_needNet, Cond.code yX3_needNet cX3_needNet 1 none, Cond.classLink RX3 38 "java/lang/IllegalStateException", Cond.initialized "java/lang/IllegalStateException", Cond.methodLink RX3 168 yX0_markingsFound, Cond.instanceMethod yX0_markingsFound, Cond.selects RX0 yX0_markingsFound yX0_markingsFound, Cond.initialized RX0, Cond.code yX0_markingsFound cX0_markingsFound 1 (some .int), Cond.fieldLink RX0 47 "RegionNets$Net" "found" "I", Cond.methodLink RX0 82 yX0_findMarkings, Cond.instanceMethod yX0_findMarkings]
def wsL_markingAt_r2 : List Cond := [Cond.selects RX0 yX0_findMarkings yX0_findMarkings, Cond.code yX0_findMarkings cX0_findMarkings 3 none, Cond.fieldLink RX0 29 "RegionNets$Net" "markings" "[I", Cond.fieldLink RX0 43 "RegionNets$Net" "first" "I", Cond.methodLink RX0 85 yX0_canFire, Cond.instanceMethod yX0_canFire, Cond.selects RX0 yX0_canFire yX0_canFire, Cond.code yX0_canFire cX0_canFire 3 (some .boolean), Cond.fieldLink RX0 9 "RegionNets$Net" "steps" "LRegionNets$Steps;", Cond.fieldLink RX0 23 "RegionNets$Net" "takes" "[I", Cond.fieldLink RX0 26 "RegionNets$Net" "gives" "[I", Cond.methodLink RX0 79 yX2_beginning, Cond.instanceMethod yX2_beginning, Cond.selects RX2 yX2_beginning yX2_beginning, Cond.initialized RX2, Cond.code yX2_beginning cX2_beginning 2 (some .int), Cond.fieldLink RX2 20 "RegionNets$Steps" "begins" "[I", Cond.methodLink RX0 88 yX0_behind, Cond.instanceMethod yX0_behind, Cond.selects RX0 yX0_behind yX0_behind, Cond.code yX0_behind cX0_behind 3 (some .int), Cond.methodLink RX0 91 yX0_keepNew, Cond.instanceMethod yX0_keepNew, Cond.selects RX0 yX0_keepNew yX0_keepNew]
def wsL_markingAt_r3 : List Cond := [Cond.code yX0_keepNew cX0_keepNew 3 none, Cond.methodLink RX3 173 yX0_markingFound, Cond.instanceMethod yX0_markingFound, Cond.selects RX0 yX0_markingFound yX0_markingFound, Cond.code yX0_markingFound cX0_markingFound 2 (some .int)]
def wsL_markingAt : List Cond := .codeWith yL_markingAt cL_markingAt 4 (some .int) [(0, 9, 12, 13), (0, 9, 15, 19)] :: ((wsL_markingAt_r1 ++ (wsL_markingAt_r2 ++ wsL_markingAt_r3)) ++ wsX30 ++ wsX00 ++ wsX20 ++ (vx_atS RX3 151 "java/lang/IndexOutOfBoundsException" ["java/lang/RuntimeException", "java/lang/Exception"]).filter goodWord ++ (vx_atS RX3 42 "java/lang/IllegalStateException" ["java/lang/RuntimeException", "java/lang/Exception"]).filter goodWord)
def wsL_isFaithful_r1 : List Cond := [Cond.classLink RL 13 "java/lang/IllegalStateException", Cond.methodLink RL 84 yX3_isFaithful, Cond.instanceMethod yX3_isFaithful, Cond.selects RX3 yX3_isFaithful yX3_isFaithful, Cond.initialized RX3, Cond.code yX3_isFaithful cX3_isFaithful 1 (some .boolean), Cond.fieldLink RX3 30 "RegionNets" "net" "LRegionNets$Net;", Cond.methodLink RX3 144 yX3_needNet, Cond.instanceMethod yX3_needNet, Cond.selects RX3 yX3_needNet yX3_needNet, Cond.code yX3_needNet cX3_needNet 1 none, Cond.classLink RX3 38 "java/lang/IllegalStateException", Cond.initialized "java/lang/IllegalStateException", Cond.methodLink RX3 176 yX0_behavesLikeSystem, Cond.instanceMethod yX0_behavesLikeSystem, Cond.selects RX0 yX0_behavesLikeSystem yX0_behavesLikeSystem, Cond.initialized RX0, Cond.code yX0_behavesLikeSystem cX0_behavesLikeSystem 3 (some .boolean), Cond.fieldLink RX0 9 "RegionNets$Net" "steps" "LRegionNets$Steps;", Cond.methodLink RX0 95 yX2_reachedStates, Cond.instanceMethod yX2_reachedStates, Cond.selects RX2 yX2_reachedStates yX2_reachedStates, Cond.initialized RX2, Cond.code yX2_reachedStates cX2_reachedStates 3 (some .int)]
def wsL_isFaithful_r2 : List Cond := [Cond.fieldLink RX2 9 "RegionNets$Steps" "states" "I", Cond.methodLink RX2 62 yX2_nextStates, Cond.instanceMethod yX2_nextStates, Cond.selects RX2 yX2_nextStates yX2_nextStates, Cond.code yX2_nextStates cX2_nextStates 6 (some .int), Cond.fieldLink RX2 17 "RegionNets$Steps" "ends" "[[I", Cond.static yX3_has, Cond.code yX3_has cX3_has 2 (some .boolean), Cond.methodLink RX0 101 yX0_isMatched, Cond.instanceMethod yX0_isMatched, Cond.selects RX0 yX0_isMatched yX0_isMatched, Cond.code yX0_isMatched cX0_isMatched 6 (some .boolean), Cond.methodLink RX0 39 yX0_placesWith, Cond.instanceMethod yX0_placesWith, Cond.selects RX0 yX0_placesWith yX0_placesWith, Cond.code yX0_placesWith cX0_placesWith 4 (some .int), Cond.fieldLink RX0 54 "RegionNets$Net" "places" "I", Cond.fieldLink RX0 19 "RegionNets$Net" "placeSets" "[I", Cond.methodLink RX0 104 yX2_end, Cond.instanceMethod yX2_end, Cond.selects RX2 yX2_end yX2_end, Cond.code yX2_end cX2_end 3 (some .int), Cond.methodLink RX0 85 yX0_canFire, Cond.instanceMethod yX0_canFire]
def wsL_isFaithful_r3 : List Cond := [Cond.selects RX0 yX0_canFire yX0_canFire, Cond.code yX0_canFire cX0_canFire 3 (some .boolean), Cond.fieldLink RX0 23 "RegionNets$Net" "takes" "[I", Cond.fieldLink RX0 26 "RegionNets$Net" "gives" "[I", Cond.methodLink RX0 79 yX2_beginning, Cond.instanceMethod yX2_beginning, Cond.selects RX2 yX2_beginning yX2_beginning, Cond.code yX2_beginning cX2_beginning 2 (some .int), Cond.fieldLink RX2 20 "RegionNets$Steps" "begins" "[I"]
def wsL_isFaithful : List Cond := .codeWith yL_isFaithful cL_isFaithful 3 (some .int) [(0, 15, 18, 13)] :: ((wsL_isFaithful_r1 ++ (wsL_isFaithful_r2 ++ wsL_isFaithful_r3)) ++ wsX30 ++ wsX00 ++ wsX20 ++ (vx_atS RX3 42 "java/lang/IllegalStateException" ["java/lang/RuntimeException", "java/lang/Exception"]).filter goodWord)
def wsL_law0_r1 : List Cond := [Cond.classLink RL 8 RX3, Cond.instantiable RX3 3, Cond.initialized RX3, Cond.classLink RL 89 RX4, Cond.instantiable RX4 12, Cond.initialized RX4, Cond.arrayClass .long, Cond.methodLink RL 88 yX3_init, Cond.instanceMethod yX3_init, Cond.code yX3_init cX3_init 1 none, Cond.methodLink RX3 1 objectInit, Cond.instanceMethod objectInit, Cond.code objectInit ⟨#[0xb1]⟩ 1 none, Cond.classLink RX3 7 RX2, Cond.instantiable RX2 5, Cond.initialized RX2, Cond.fieldLink RX3 10 "RegionNets" "steps" "LRegionNets$Steps;", Cond.classLink RX3 16 RX1, Cond.instantiable RX1 4, Cond.initialized RX1, Cond.fieldLink RX3 21 "RegionNets" "regions" "LRegionNets$Regions;", Cond.classLink RX3 25 RX0, Cond.instantiable RX0 11, Cond.initialized RX0]
def wsL_law0_r2 : List Cond := [Cond.fieldLink RX3 30 "RegionNets" "net" "LRegionNets$Net;", Cond.methodLink RX3 9 yX2_init, Cond.instanceMethod yX2_init, Cond.code yX2_init cX2_init 3 none, Cond.methodLink RX2 3 objectInit, Cond.fieldLink RX2 9 "RegionNets$Steps" "states" "I", Cond.classLink RX2 15 "[[I", Cond.arrayClass .int, Cond.fieldLink RX2 17 "RegionNets$Steps" "ends" "[[I", Cond.fieldLink RX2 20 "RegionNets$Steps" "begins" "[I", Cond.fieldLink RX2 24 "RegionNets$Steps" "lowSources" "[[I", Cond.fieldLink RX2 27 "RegionNets$Steps" "highSources" "[[I", Cond.methodLink RX3 18 yX1_init, Cond.instanceMethod yX1_init, Cond.code yX1_init cX1_init 2 none, Cond.methodLink RX1 3 objectInit, Cond.fieldLink RX1 9 "RegionNets$Regions" "steps" "LRegionNets$Steps;", Cond.fieldLink RX1 15 "RegionNets$Regions" "sets" "[I", Cond.methodLink RX3 27 yX0_init, Cond.instanceMethod yX0_init, Cond.code yX0_init cX0_init 3 none, Cond.methodLink RX0 3 objectInit, Cond.fieldLink RX0 9 "RegionNets$Net" "steps" "LRegionNets$Steps;", Cond.fieldLink RX0 15 "RegionNets$Net" "regions" "LRegionNets$Regions;"]
def wsL_law0_r3 : List Cond := [Cond.fieldLink RX0 19 "RegionNets$Net" "placeSets" "[I", Cond.fieldLink RX0 23 "RegionNets$Net" "takes" "[I", Cond.fieldLink RX0 26 "RegionNets$Net" "gives" "[I", Cond.fieldLink RX0 29 "RegionNets$Net" "markings" "[I", Cond.methodLink RL 91 yX4_init, Cond.instanceMethod yX4_init, Cond.code yX4_init cX4_init 2 none, Cond.methodLink RX4 3 objectInit, Cond.fieldLink RX4 9 "RegionNetsModel" "states" "I", Cond.fieldLink RX4 13 "RegionNetsModel" "targets" "[I", Cond.fieldLink RX4 17 "RegionNetsModel" "sets" "[I", Cond.fieldLink RX4 20 "RegionNetsModel" "placeSets" "[I", Cond.fieldLink RX4 23 "RegionNetsModel" "found" "[I", Cond.methodLink RL 92 yL_addState, Cond.static yL_addState, Cond.initialized RL, Cond.codeWith yL_addState cL_addState 3 (some .int) [(0, 8, 11, 13)], Cond.classLink RL 13 "java/lang/IllegalStateException", Cond.methodLink RL 7 yX3_addState, Cond.instanceMethod yX3_addState, Cond.selects RX3 yX3_addState yX3_addState, Cond.code yX3_addState cX3_addState 2 (some .int), Cond.classLink RX3 38 "java/lang/IllegalStateException", Cond.initialized "java/lang/IllegalStateException"]
def wsL_law0_r4 : List Cond := [Cond.methodLink RX3 45 yX3_changed, Cond.instanceMethod yX3_changed, Cond.selects RX3 yX3_changed yX3_changed, Cond.code yX3_changed cX3_changed 1 none, Cond.methodLink RL 97 yX4_addState, Cond.instanceMethod yX4_addState, Cond.selects RX4 yX4_addState yX4_addState, Cond.code yX4_addState cX4_addState 1 (some .int), Cond.fieldLink RX4 26 "RegionNetsModel" "thrown" "I", Cond.methodLink RX4 36 yX4_fail, Cond.instanceMethod yX4_fail, Cond.selects RX4 yX4_fail yX4_fail, Cond.code yX4_fail cX4_fail 2 (some .int), Cond.methodLink RX4 40 yX4_change, Cond.instanceMethod yX4_change, Cond.selects RX4 yX4_change yX4_change, Cond.code yX4_change cX4_change 1 none, Cond.fieldLink RX4 29 "RegionNetsModel" "isKnown" "Z", Cond.fieldLink RX4 33 "RegionNetsModel" "isNet" "Z", Cond.methodLink RL 98 yX4_thrown, Cond.instanceMethod yX4_thrown, Cond.selects RX4 yX4_thrown yX4_thrown, Cond.code yX4_thrown cX4_thrown 1 (some .int), Cond.methodLink RL 101 yL_step]
def wsL_law0_r5 : List Cond := [Cond.static yL_step, Cond.codeWith yL_step cL_step 6 (some .int) [(0, 12, 15, 19)], Cond.classLink RL 19 "java/lang/IndexOutOfBoundsException", Cond.methodLink RL 15 yX3_step, Cond.instanceMethod yX3_step, Cond.selects RX3 yX3_step yX3_step, Cond.code yX3_step cX3_step 5 (some .int), Cond.methodLink RX3 48 yX3_needState, Cond.instanceMethod yX3_needState, Cond.selects RX3 yX3_needState yX3_needState, Cond.code yX3_needState cX3_needState 2 none, Cond.classLink RX3 147 "java/lang/IndexOutOfBoundsException", Cond.initialized "java/lang/IndexOutOfBoundsException", Cond.methodLink RX3 52 yX3_needLabel, Cond.static yX3_needLabel, Cond.code yX3_needLabel cX3_needLabel 1 none, Cond.methodLink RX3 55 yX2_end, Cond.instanceMethod yX2_end, Cond.selects RX2 yX2_end yX2_end, Cond.code yX2_end cX2_end 3 (some .int), Cond.methodLink RX3 59 yX2_put, Cond.instanceMethod yX2_put, Cond.selects RX2 yX2_put yX2_put, Cond.code yX2_put cX2_put 4 none]
def wsL_law0_r6 : List Cond := [Cond.methodLink RX2 30 yX2_setEnd, Cond.instanceMethod yX2_setEnd, Cond.selects RX2 yX2_setEnd yX2_setEnd, Cond.code yX2_setEnd cX2_setEnd 5 none, Cond.methodLink RX2 34 yX2_learnSources, Cond.instanceMethod yX2_learnSources, Cond.selects RX2 yX2_learnSources yX2_learnSources, Cond.code yX2_learnSources cX2_learnSources 2 none, Cond.methodLink RX2 38 yX2_learnHalf, Cond.instanceMethod yX2_learnHalf, Cond.selects RX2 yX2_learnHalf yX2_learnHalf, Cond.code yX2_learnHalf cX2_learnHalf 8 none, Cond.methodLink RX2 42 yX2_beginsOfStepsTo, Cond.instanceMethod yX2_beginsOfStepsTo, Cond.selects RX2 yX2_beginsOfStepsTo yX2_beginsOfStepsTo, Cond.code yX2_beginsOfStepsTo cX2_beginsOfStepsTo 5 (some .int), Cond.methodLink RL 104 yX4_step, Cond.instanceMethod yX4_step, Cond.selects RX4 yX4_step yX4_step, Cond.code yX4_step cX4_step 5 (some .int), Cond.methodLink RX4 43 yX4_isState, Cond.instanceMethod yX4_isState, Cond.selects RX4 yX4_isState yX4_isState, Cond.code yX4_isState cX4_isState 2 (some .boolean)]
def wsL_law0_r7 : List Cond := [Cond.methodLink RX4 47 yX4_isLabel, Cond.static yX4_isLabel, Cond.code yX4_isLabel cX4_isLabel 1 (some .boolean), Cond.methodLink RX4 50 yX4_to, Cond.instanceMethod yX4_to, Cond.selects RX4 yX4_to yX4_to, Cond.code yX4_to cX4_to 3 (some .int), Cond.methodLink RL 105 yL_unstep, Cond.static yL_unstep, Cond.codeWith yL_unstep cL_unstep 5 (some .int) [(0, 17, 20, 19)], Cond.methodLink RL 21 yX3_unstep, Cond.instanceMethod yX3_unstep, Cond.selects RX3 yX3_unstep yX3_unstep, Cond.code yX3_unstep cX3_unstep 4 (some .boolean), Cond.methodLink RL 108 yX4_unstep, Cond.instanceMethod yX4_unstep, Cond.selects RX4 yX4_unstep yX4_unstep, Cond.code yX4_unstep cX4_unstep 4 (some .boolean), Cond.methodLink RL 109 yL_rename, Cond.static yL_rename, Cond.codeWith yL_rename cL_rename 5 (some .int) [(0, 10, 13, 19), (0, 10, 17, 13)], Cond.methodLink RL 25 yX3_rename, Cond.instanceMethod yX3_rename, Cond.selects RX3 yX3_rename yX3_rename]
def wsL_law0_r8 : List Cond := [Cond.code yX3_rename cX3_rename 4 (some .int), Cond.methodLink RX3 63 yX2_beginning, Cond.instanceMethod yX2_beginning, Cond.selects RX2 yX2_beginning yX2_beginning, Cond.code yX2_beginning cX2_beginning 2 (some .int), Cond.methodLink RX3 69 yX2_move, Cond.instanceMethod yX2_move, Cond.selects RX2 yX2_move yX2_move, Cond.code yX2_move cX2_move 5 none, Cond.methodLink RX3 73 yJ6_bitCount_0f7a4, Cond.static yJ6_bitCount_0f7a4, Cond.initialized RJ6, Cond.code yJ6_bitCount_0f7a4 cJ6_bitCount_0f7a4 1 (some .int), Cond.constant RJ6 265 (1431655765), Cond.constant RJ6 266 (858993459), Cond.constant RJ6 267 (252645135), Cond.methodLink RL 111 yX4_rename, Cond.instanceMethod yX4_rename, Cond.selects RX4 yX4_rename yX4_rename, Cond.code yX4_rename cX4_rename 5 (some .int), Cond.methodLink RL 112 yX3_stateCount, Cond.instanceMethod yX3_stateCount, Cond.selects RX3 yX3_stateCount yX3_stateCount, Cond.code yX3_stateCount cX3_stateCount 1 (some .int)]
def wsL_law0_r9 : List Cond := [Cond.methodLink RL 115 yX4_stateCount, Cond.instanceMethod yX4_stateCount, Cond.selects RX4 yX4_stateCount yX4_stateCount, Cond.code yX4_stateCount cX4_stateCount 1 (some .int), Cond.methodLink RL 116 yL_target, Cond.static yL_target, Cond.codeWith yL_target cL_target 5 (some .int) [(0, 10, 13, 19)], Cond.methodLink RL 29 yX3_target, Cond.instanceMethod yX3_target, Cond.selects RX3 yX3_target yX3_target, Cond.code yX3_target cX3_target 3 (some .int), Cond.methodLink RL 118 yX4_target, Cond.instanceMethod yX4_target, Cond.selects RX4 yX4_target yX4_target, Cond.code yX4_target cX4_target 3 (some .int), Cond.methodLink RL 119 yL_enabled, Cond.static yL_enabled, Cond.codeWith yL_enabled cL_enabled 4 (some .int) [(0, 9, 12, 19)], Cond.methodLink RL 32 yX3_enabled, Cond.instanceMethod yX3_enabled, Cond.selects RX3 yX3_enabled yX3_enabled, Cond.code yX3_enabled cX3_enabled 4 (some .int), Cond.methodLink RL 122 yX4_enabled, Cond.instanceMethod yX4_enabled]
def wsL_law0_r10 : List Cond := [Cond.selects RX4 yX4_enabled yX4_enabled, Cond.code yX4_enabled cX4_enabled 4 (some .int), Cond.methodLink RL 123 yX3_reached, Cond.instanceMethod yX3_reached, Cond.selects RX3 yX3_reached yX3_reached, Cond.code yX3_reached cX3_reached 1 (some .int), Cond.methodLink RX3 78 yX2_reachedStates, Cond.instanceMethod yX2_reachedStates, Cond.selects RX2 yX2_reachedStates yX2_reachedStates, Cond.code yX2_reachedStates cX2_reachedStates 3 (some .int), Cond.methodLink RX2 62 yX2_nextStates, Cond.instanceMethod yX2_nextStates, Cond.selects RX2 yX2_nextStates yX2_nextStates, Cond.code yX2_nextStates cX2_nextStates 6 (some .int), Cond.static yX3_has, Cond.code yX3_has cX3_has 2 (some .boolean), Cond.methodLink RL 126 yX4_reached, Cond.instanceMethod yX4_reached, Cond.selects RX4 yX4_reached yX4_reached, Cond.code yX4_reached cX4_reached 2 (some .int), Cond.methodLink RX4 58 yX4_goOn, Cond.instanceMethod yX4_goOn, Cond.selects RX4 yX4_goOn yX4_goOn, Cond.code yX4_goOn cX4_goOn 5 (some .int)]
def wsL_law0_r11 : List Cond := [Cond.methodLink RX4 54 yX4_has, Cond.static yX4_has, Cond.code yX4_has cX4_has 2 (some .boolean), Cond.methodLink RL 127 yL_distance, Cond.static yL_distance, Cond.codeWith yL_distance cL_distance 4 (some .int) [(0, 9, 12, 19)], Cond.methodLink RL 36 yX3_distance, Cond.instanceMethod yX3_distance, Cond.selects RX3 yX3_distance yX3_distance, Cond.code yX3_distance cX3_distance 2 (some .int), Cond.methodLink RX3 82 yX2_distanceTo, Cond.instanceMethod yX2_distanceTo, Cond.selects RX2 yX2_distanceTo yX2_distanceTo, Cond.code yX2_distanceTo cX2_distanceTo 4 (some .int), Cond.methodLink RL 129 yX4_distance, Cond.instanceMethod yX4_distance, Cond.selects RX4 yX4_distance yX4_distance, Cond.code yX4_distance cX4_distance 4 (some .int), Cond.methodLink RL 130 yL_crossing, Cond.static yL_crossing, Cond.codeWith yL_crossing cL_crossing 5 (some .int) [(0, 10, 13, 42), (0, 10, 17, 19)], Cond.classLink RL 42 "java/lang/IllegalArgumentException", Cond.methodLink RL 39 yX3_crossing, Cond.instanceMethod yX3_crossing]
def wsL_law0_r12 : List Cond := [Cond.selects RX3 yX3_crossing yX3_crossing, Cond.code yX3_crossing cX3_crossing 3 (some .int), Cond.methodLink RX3 85 yX3_needSet, Cond.instanceMethod yX3_needSet, Cond.selects RX3 yX3_needSet yX3_needSet, Cond.code yX3_needSet cX3_needSet 2 none, Cond.classLink RX3 198 "java/lang/IllegalArgumentException", Cond.initialized "java/lang/IllegalArgumentException", Cond.methodLink RX3 195 yX2_all, Cond.instanceMethod yX2_all, Cond.selects RX2 yX2_all yX2_all, Cond.code yX2_all cX2_all 1 (some .int), Cond.methodLink RX3 88 yX2_way, Cond.instanceMethod yX2_way, Cond.selects RX2 yX2_way yX2_way, Cond.code yX2_way cX2_way 6 (some .int), Cond.methodLink RX2 46 yX2_sourcesOf, Cond.instanceMethod yX2_sourcesOf, Cond.selects RX2 yX2_sourcesOf yX2_sourcesOf, Cond.code yX2_sourcesOf cX2_sourcesOf 3 (some .int), Cond.methodLink RL 132 yX4_crossing, Cond.instanceMethod yX4_crossing, Cond.selects RX4 yX4_crossing yX4_crossing, Cond.code yX4_crossing cX4_crossing 3 (some .int)]
def wsL_law0_r13 : List Cond := [Cond.methodLink RX4 73 yX4_isSet, Cond.instanceMethod yX4_isSet, Cond.selects RX4 yX4_isSet yX4_isSet, Cond.code yX4_isSet cX4_isSet 2 (some .boolean), Cond.methodLink RX4 61 yX4_way, Cond.instanceMethod yX4_way, Cond.selects RX4 yX4_way yX4_way, Cond.code yX4_way cX4_way 8 (some .int), Cond.methodLink RL 133 yL_isRegion, Cond.static yL_isRegion, Cond.codeWith yL_isRegion cL_isRegion 4 (some .int) [(0, 16, 19, 42)], Cond.methodLink RL 44 yX3_isRegion, Cond.instanceMethod yX3_isRegion, Cond.selects RX3 yX3_isRegion yX3_isRegion, Cond.code yX3_isRegion cX3_isRegion 2 (some .boolean), Cond.methodLink RX3 91 yX1_isOne, Cond.instanceMethod yX1_isOne, Cond.selects RX1 yX1_isOne yX1_isOne, Cond.code yX1_isOne cX1_isOne 2 (some .boolean), Cond.methodLink RX1 19 yX2_all, Cond.methodLink RX1 25 yX2_firstMixed, Cond.instanceMethod yX2_firstMixed, Cond.selects RX2 yX2_firstMixed yX2_firstMixed, Cond.code yX2_firstMixed cX2_firstMixed 3 (some .int)]
def wsL_law0_r14 : List Cond := [Cond.methodLink RX2 49 yX2_way, Cond.methodLink RL 135 yX4_isRegion, Cond.instanceMethod yX4_isRegion, Cond.selects RX4 yX4_isRegion yX4_isRegion, Cond.code yX4_isRegion cX4_isRegion 2 (some .boolean), Cond.methodLink RX4 70 yX4_isProper, Cond.instanceMethod yX4_isProper, Cond.selects RX4 yX4_isProper yX4_isProper, Cond.code yX4_isProper cX4_isProper 2 (some .boolean), Cond.methodLink RX4 64 yX4_mixed, Cond.instanceMethod yX4_mixed, Cond.selects RX4 yX4_mixed yX4_mixed, Cond.code yX4_mixed cX4_mixed 3 (some .int), Cond.methodLink RL 136 yX3_regionCount, Cond.instanceMethod yX3_regionCount, Cond.selects RX3 yX3_regionCount yX3_regionCount, Cond.code yX3_regionCount cX3_regionCount 1 (some .int), Cond.methodLink RX3 95 yX1_count, Cond.instanceMethod yX1_count, Cond.selects RX1 yX1_count yX1_count, Cond.code yX1_count cX1_count 1 (some .int), Cond.fieldLink RX1 29 "RegionNets$Regions" "known" "Z", Cond.fieldLink RX1 36 "RegionNets$Regions" "count" "I", Cond.methodLink RX1 33 yX1_search]
def wsL_law0_r15 : List Cond := [Cond.instanceMethod yX1_search, Cond.selects RX1 yX1_search yX1_search, Cond.code yX1_search cX1_search 3 none, Cond.methodLink RL 139 yX4_regionCount, Cond.instanceMethod yX4_regionCount, Cond.selects RX4 yX4_regionCount yX4_regionCount, Cond.code yX4_regionCount cX4_regionCount 1 (some .int), Cond.fieldLink RX4 67 "RegionNetsModel" "regions" "I", Cond.methodLink RX4 76 yX4_know, Cond.instanceMethod yX4_know, Cond.selects RX4 yX4_know yX4_know, Cond.code yX4_know cX4_know 2 none, Cond.methodLink RL 140 yL_region, Cond.static yL_region, Cond.codeWith yL_region cL_region 4 (some .int) [(0, 9, 12, 19)], Cond.methodLink RL 48 yX3_region, Cond.instanceMethod yX3_region, Cond.selects RX3 yX3_region yX3_region, Cond.code yX3_region cX3_region 2 (some .int), Cond.methodLink RX3 98 yX3_needRegion, Cond.instanceMethod yX3_needRegion, Cond.selects RX3 yX3_needRegion yX3_needRegion, Cond.code yX3_needRegion cX3_needRegion 2 none, Cond.methodLink RX3 101 yX1_at]
def wsL_law0_r16 : List Cond := [Cond.instanceMethod yX1_at, Cond.selects RX1 yX1_at yX1_at, Cond.code yX1_at cX1_at 2 (some .int), Cond.methodLink RL 142 yX4_region, Cond.instanceMethod yX4_region, Cond.selects RX4 yX4_region yX4_region, Cond.code yX4_region cX4_region 2 (some .int), Cond.methodLink RL 143 yL_isLeast, Cond.static yL_isLeast, Cond.codeWith yL_isLeast cL_isLeast 4 (some .int) [(0, 16, 19, 19)], Cond.methodLink RL 51 yX3_isLeast, Cond.instanceMethod yX3_isLeast, Cond.selects RX3 yX3_isLeast yX3_isLeast, Cond.code yX3_isLeast cX3_isLeast 2 (some .boolean), Cond.methodLink RX3 104 yX1_hasNoPart, Cond.instanceMethod yX1_hasNoPart, Cond.selects RX1 yX1_hasNoPart yX1_hasNoPart, Cond.code yX1_hasNoPart cX1_hasNoPart 3 (some .boolean), Cond.methodLink RL 145 yX4_isLeast, Cond.instanceMethod yX4_isLeast, Cond.selects RX4 yX4_isLeast yX4_isLeast, Cond.code yX4_isLeast cX4_isLeast 2 (some .boolean), Cond.methodLink RX4 79 yX4_isSmallest, Cond.instanceMethod yX4_isSmallest]
def wsL_law0_r17 : List Cond := [Cond.selects RX4 yX4_isSmallest yX4_isSmallest, Cond.code yX4_isSmallest cX4_isSmallest 4 (some .boolean), Cond.methodLink RL 146 yL_grow, Cond.static yL_grow, Cond.codeWith yL_grow cL_grow 4 (some .int) [(0, 9, 12, 42)], Cond.methodLink RL 54 yX3_grow, Cond.instanceMethod yX3_grow, Cond.selects RX3 yX3_grow yX3_grow, Cond.code yX3_grow cX3_grow 2 (some .int), Cond.methodLink RX3 107 yX2_grown, Cond.instanceMethod yX2_grown, Cond.selects RX2 yX2_grown yX2_grown, Cond.code yX2_grown cX2_grown 5 (some .int), Cond.methodLink RX2 52 yX2_firstMixed, Cond.methodLink RX2 56 yX2_growth, Cond.instanceMethod yX2_growth, Cond.selects RX2 yX2_growth yX2_growth, Cond.code yX2_growth cX2_growth 6 (some .int), Cond.methodLink RX2 59 yX2_endsOf, Cond.instanceMethod yX2_endsOf, Cond.selects RX2 yX2_endsOf yX2_endsOf, Cond.code yX2_endsOf cX2_endsOf 5 (some .int), Cond.methodLink RL 148 yX4_grow, Cond.instanceMethod yX4_grow]
def wsL_law0_r18 : List Cond := [Cond.selects RX4 yX4_grow yX4_grow, Cond.code yX4_grow cX4_grow 7 (some .int), Cond.methodLink RX4 82 yX4_ends, Cond.instanceMethod yX4_ends, Cond.selects RX4 yX4_ends yX4_ends, Cond.code yX4_ends cX4_ends 5 (some .int), Cond.methodLink RL 149 yL_apart, Cond.static yL_apart, Cond.codeWith yL_apart cL_apart 5 (some .int) [(0, 10, 13, 19)], Cond.methodLink RL 57 yX3_apart, Cond.instanceMethod yX3_apart, Cond.selects RX3 yX3_apart yX3_apart, Cond.code yX3_apart cX3_apart 3 (some .int), Cond.methodLink RX3 110 yX1_firstApart, Cond.instanceMethod yX1_firstApart, Cond.selects RX1 yX1_firstApart yX1_firstApart, Cond.code yX1_firstApart cX1_firstApart 5 (some .int), Cond.methodLink RX1 40 yX1_count, Cond.methodLink RL 151 yX4_apart, Cond.instanceMethod yX4_apart, Cond.selects RX4 yX4_apart yX4_apart, Cond.code yX4_apart cX4_apart 3 (some .int), Cond.methodLink RX4 86 yX4_firstApart, Cond.instanceMethod yX4_firstApart]
def wsL_law0_r19 : List Cond := [Cond.selects RX4 yX4_firstApart yX4_firstApart, Cond.code yX4_firstApart cX4_firstApart 4 (some .int), Cond.methodLink RL 152 yL_preventer, Cond.static yL_preventer, Cond.codeWith yL_preventer cL_preventer 5 (some .int) [(0, 10, 13, 19)], Cond.methodLink RL 60 yX3_preventer, Cond.instanceMethod yX3_preventer, Cond.selects RX3 yX3_preventer yX3_preventer, Cond.code yX3_preventer cX3_preventer 3 (some .int), Cond.methodLink RX3 113 yX1_firstPreventing, Cond.instanceMethod yX1_firstPreventing, Cond.selects RX1 yX1_firstPreventing yX1_firstPreventing, Cond.code yX1_firstPreventing cX1_firstPreventing 5 (some .int), Cond.methodLink RX1 46 yX1_prevents, Cond.instanceMethod yX1_prevents, Cond.selects RX1 yX1_prevents yX1_prevents, Cond.code yX1_prevents cX1_prevents 5 (some .boolean), Cond.methodLink RX1 50 yX2_way, Cond.methodLink RL 154 yX4_preventer, Cond.instanceMethod yX4_preventer, Cond.selects RX4 yX4_preventer yX4_preventer, Cond.code yX4_preventer cX4_preventer 3 (some .int), Cond.methodLink RX4 89 yX4_firstPreventer, Cond.instanceMethod yX4_firstPreventer]
def wsL_law0_r20 : List Cond := [Cond.selects RX4 yX4_firstPreventer yX4_firstPreventer, Cond.code yX4_firstPreventer cX4_firstPreventer 5 (some .int), Cond.methodLink RL 155 yX3_lumps, Cond.instanceMethod yX3_lumps, Cond.selects RX3 yX3_lumps yX3_lumps, Cond.code yX3_lumps cX3_lumps 1 (some .int), Cond.methodLink RX3 116 yX1_pairsNotApart, Cond.instanceMethod yX1_pairsNotApart, Cond.selects RX1 yX1_pairsNotApart yX1_pairsNotApart, Cond.code yX1_pairsNotApart cX1_pairsNotApart 4 (some .int), Cond.methodLink RX1 57 yX1_firstApart, Cond.methodLink RL 158 yX4_lumps, Cond.instanceMethod yX4_lumps, Cond.selects RX4 yX4_lumps yX4_lumps, Cond.code yX4_lumps cX4_lumps 1 (some .int), Cond.methodLink RX4 92 yX4_lumpCount, Cond.instanceMethod yX4_lumpCount, Cond.selects RX4 yX4_lumpCount yX4_lumpCount, Cond.code yX4_lumpCount cX4_lumpCount 4 (some .int), Cond.methodLink RL 159 yX3_leaks, Cond.instanceMethod yX3_leaks, Cond.selects RX3 yX3_leaks yX3_leaks, Cond.code yX3_leaks cX3_leaks 1 (some .int), Cond.methodLink RX3 119 yX1_pairsNotPrevented]
def wsL_law0_r21 : List Cond := [Cond.instanceMethod yX1_pairsNotPrevented, Cond.selects RX1 yX1_pairsNotPrevented yX1_pairsNotPrevented, Cond.code yX1_pairsNotPrevented cX1_pairsNotPrevented 3 (some .int), Cond.methodLink RX1 60 yX2_stopsOf, Cond.instanceMethod yX2_stopsOf, Cond.selects RX2 yX2_stopsOf yX2_stopsOf, Cond.code yX2_stopsOf cX2_stopsOf 2 (some .int), Cond.methodLink RX2 69 yX2_all, Cond.methodLink RX1 63 yX1_preventedIn, Cond.instanceMethod yX1_preventedIn, Cond.selects RX1 yX1_preventedIn yX1_preventedIn, Cond.code yX1_preventedIn cX1_preventedIn 6 (some .int), Cond.methodLink RX1 66 yJ6_bitCount_0f7a4, Cond.methodLink RL 162 yX4_leaks, Cond.instanceMethod yX4_leaks, Cond.selects RX4 yX4_leaks yX4_leaks, Cond.code yX4_leaks cX4_leaks 1 (some .int), Cond.methodLink RX4 99 yX4_leakCount, Cond.instanceMethod yX4_leakCount, Cond.selects RX4 yX4_leakCount yX4_leakCount, Cond.code yX4_leakCount cX4_leakCount 4 (some .int), Cond.methodLink RX4 96 yX4_isAsked, Cond.instanceMethod yX4_isAsked, Cond.selects RX4 yX4_isAsked yX4_isAsked]
def wsL_law0_r22 : List Cond := [Cond.code yX4_isAsked cX4_isAsked 3 (some .boolean), Cond.methodLink RL 163 yX3_fidelity, Cond.instanceMethod yX3_fidelity, Cond.selects RX3 yX3_fidelity yX3_fidelity, Cond.code yX3_fidelity cX3_fidelity 3 (some .double), Cond.methodLink RX3 122 yX2_statePairs, Cond.instanceMethod yX2_statePairs, Cond.selects RX2 yX2_statePairs yX2_statePairs, Cond.code yX2_statePairs cX2_statePairs 1 (some .int), Cond.methodLink RX3 125 yX2_stopPairs, Cond.instanceMethod yX2_stopPairs, Cond.selects RX2 yX2_stopPairs yX2_stopPairs, Cond.code yX2_stopPairs cX2_stopPairs 3 (some .int), Cond.methodLink RX2 73 yX2_stopsOf, Cond.methodLink RX2 76 yJ6_bitCount_0f7a4, Cond.methodLink RL 167 yX4_fidelity, Cond.instanceMethod yX4_fidelity, Cond.selects RX4 yX4_fidelity yX4_fidelity, Cond.code yX4_fidelity cX4_fidelity 4 (some .double), Cond.methodLink RL 168 yX3_makeNet, Cond.instanceMethod yX3_makeNet, Cond.selects RX3 yX3_makeNet yX3_makeNet, Cond.code yX3_makeNet cX3_makeNet 1 (some .int), Cond.methodLink RX3 132 yX0_make]
def wsL_law0_r23 : List Cond := [Cond.instanceMethod yX0_make, Cond.selects RX0 yX0_make yX0_make, Cond.code yX0_make cX0_make 2 none, Cond.fieldLink RX0 43 "RegionNets$Net" "first" "I", Cond.fieldLink RX0 47 "RegionNets$Net" "found" "I", Cond.fieldLink RX0 50 "RegionNets$Net" "made" "Z", Cond.methodLink RX0 32 yX0_choosePlaces, Cond.instanceMethod yX0_choosePlaces, Cond.selects RX0 yX0_choosePlaces yX0_choosePlaces, Cond.code yX0_choosePlaces cX0_choosePlaces 4 none, Cond.fieldLink RX0 54 "RegionNets$Net" "places" "I", Cond.methodLink RX0 57 yX1_count, Cond.methodLink RX0 63 yX1_at, Cond.methodLink RX0 66 yX0_holdsPlace, Cond.instanceMethod yX0_holdsPlace, Cond.selects RX0 yX0_holdsPlace yX0_holdsPlace, Cond.code yX0_holdsPlace cX0_holdsPlace 3 (some .boolean), Cond.methodLink RX0 35 yX0_placesCrossed, Cond.instanceMethod yX0_placesCrossed, Cond.selects RX0 yX0_placesCrossed yX0_placesCrossed, Cond.code yX0_placesCrossed cX0_placesCrossed 5 (some .int), Cond.methodLink RX0 70 yX2_way, Cond.methodLink RX0 39 yX0_placesWith, Cond.instanceMethod yX0_placesWith]
def wsL_law0_r24 : List Cond := [Cond.selects RX0 yX0_placesWith yX0_placesWith, Cond.code yX0_placesWith cX0_placesWith 4 (some .int), Cond.methodLink RL 171 yX4_makeNet, Cond.instanceMethod yX4_makeNet, Cond.selects RX4 yX4_makeNet yX4_makeNet, Cond.code yX4_makeNet cX4_makeNet 2 (some .int), Cond.fieldLink RX4 102 "RegionNetsModel" "places" "I", Cond.fieldLink RX4 111 "RegionNetsModel" "marking" "I", Cond.methodLink RX4 105 yX4_findMarkings, Cond.instanceMethod yX4_findMarkings, Cond.selects RX4 yX4_findMarkings yX4_findMarkings, Cond.code yX4_findMarkings cX4_findMarkings 4 none, Cond.fieldLink RX4 123 "RegionNetsModel" "markings" "I", Cond.methodLink RX4 108 yX4_firstMarking, Cond.instanceMethod yX4_firstMarking, Cond.selects RX4 yX4_firstMarking yX4_firstMarking, Cond.code yX4_firstMarking cX4_firstMarking 3 (some .int), Cond.methodLink RX4 120 yX4_behind, Cond.instanceMethod yX4_behind, Cond.selects RX4 yX4_behind yX4_behind, Cond.code yX4_behind cX4_behind 5 (some .int), Cond.methodLink RX4 117 yX4_crossed, Cond.instanceMethod yX4_crossed, Cond.selects RX4 yX4_crossed yX4_crossed]
def wsL_law0_r25 : List Cond := [Cond.code yX4_crossed cX4_crossed 5 (some .int), Cond.methodLink RX4 126 yX4_numberOf, Cond.instanceMethod yX4_numberOf, Cond.selects RX4 yX4_numberOf yX4_numberOf, Cond.code yX4_numberOf cX4_numberOf 3 (some .int), Cond.methodLink RL 172 yX3_hasNet, Cond.instanceMethod yX3_hasNet, Cond.selects RX3 yX3_hasNet yX3_hasNet, Cond.code yX3_hasNet cX3_hasNet 1 (some .boolean), Cond.methodLink RL 175 yX4_hasNet, Cond.instanceMethod yX4_hasNet, Cond.selects RX4 yX4_hasNet yX4_hasNet, Cond.code yX4_hasNet cX4_hasNet 1 (some .boolean), Cond.methodLink RL 176 yL_placeRegion, Cond.static yL_placeRegion, Cond.codeWith yL_placeRegion cL_placeRegion 4 (some .int) [(0, 9, 12, 13), (0, 9, 15, 19)], Cond.methodLink RL 63 yX3_placeRegion, Cond.instanceMethod yX3_placeRegion, Cond.selects RX3 yX3_placeRegion yX3_placeRegion, Cond.code yX3_placeRegion cX3_placeRegion 2 (some .int), Cond.methodLink RX3 144 yX3_needNet, Cond.instanceMethod yX3_needNet, Cond.selects RX3 yX3_needNet yX3_needNet, Cond.code yX3_needNet cX3_needNet 1 none]
def wsL_law0_r26 : List Cond := [Cond.methodLink RX3 152 yX0_regionOf, Cond.instanceMethod yX0_regionOf, Cond.selects RX0 yX0_regionOf yX0_regionOf, Cond.code yX0_regionOf cX0_regionOf 2 (some .int), Cond.methodLink RL 178 yX4_placeRegion, Cond.instanceMethod yX4_placeRegion, Cond.selects RX4 yX4_placeRegion yX4_placeRegion, Cond.code yX4_placeRegion cX4_placeRegion 2 (some .int), Cond.methodLink RX4 114 yX4_asks, Cond.instanceMethod yX4_asks, Cond.selects RX4 yX4_asks yX4_asks, Cond.code yX4_asks cX4_asks 3 (some .boolean), Cond.methodLink RL 179 yL_consumed, Cond.static yL_consumed, Cond.codeWith yL_consumed cL_consumed 4 (some .int) [(0, 9, 12, 13), (0, 9, 15, 19)], Cond.methodLink RL 66 yX3_consumed, Cond.instanceMethod yX3_consumed, Cond.selects RX3 yX3_consumed yX3_consumed, Cond.code yX3_consumed cX3_consumed 2 (some .int), Cond.methodLink RX3 155 yX0_takenBy, Cond.instanceMethod yX0_takenBy, Cond.selects RX0 yX0_takenBy yX0_takenBy, Cond.code yX0_takenBy cX0_takenBy 2 (some .int), Cond.methodLink RL 181 yX4_consumed]
def wsL_law0_r27 : List Cond := [Cond.instanceMethod yX4_consumed, Cond.selects RX4 yX4_consumed yX4_consumed, Cond.code yX4_consumed cX4_consumed 2 (some .int), Cond.methodLink RL 182 yL_produced, Cond.static yL_produced, Cond.codeWith yL_produced cL_produced 4 (some .int) [(0, 9, 12, 13), (0, 9, 15, 19)], Cond.methodLink RL 69 yX3_produced, Cond.instanceMethod yX3_produced, Cond.selects RX3 yX3_produced yX3_produced, Cond.code yX3_produced cX3_produced 2 (some .int), Cond.methodLink RX3 158 yX0_givenBy, Cond.instanceMethod yX0_givenBy, Cond.selects RX0 yX0_givenBy yX0_givenBy, Cond.code yX0_givenBy cX0_givenBy 2 (some .int), Cond.methodLink RL 184 yX4_produced, Cond.instanceMethod yX4_produced, Cond.selects RX4 yX4_produced yX4_produced, Cond.code yX4_produced cX4_produced 2 (some .int), Cond.methodLink RL 185 yL_marking, Cond.static yL_marking, Cond.codeWith yL_marking cL_marking 3 (some .int) [(0, 8, 11, 13)], Cond.methodLink RL 72 yX3_marking, Cond.instanceMethod yX3_marking, Cond.selects RX3 yX3_marking yX3_marking]
def wsL_law0_r28 : List Cond := [Cond.code yX3_marking cX3_marking 1 (some .int), Cond.methodLink RL 187 yX4_marking, Cond.instanceMethod yX4_marking, Cond.selects RX4 yX4_marking yX4_marking, Cond.code yX4_marking cX4_marking 1 (some .int), Cond.methodLink RL 188 yL_fire, Cond.static yL_fire, Cond.codeWith yL_fire cL_fire 4 (some .int) [(0, 9, 12, 13), (0, 9, 15, 19)], Cond.methodLink RL 75 yX3_fire, Cond.instanceMethod yX3_fire, Cond.selects RX3 yX3_fire yX3_fire, Cond.code yX3_fire cX3_fire 2 (some .int), Cond.methodLink RX3 161 yX0_canFire, Cond.instanceMethod yX0_canFire, Cond.selects RX0 yX0_canFire yX0_canFire, Cond.code yX0_canFire cX0_canFire 3 (some .boolean), Cond.methodLink RX0 79 yX2_beginning, Cond.methodLink RX3 165 yX0_behind, Cond.instanceMethod yX0_behind, Cond.selects RX0 yX0_behind yX0_behind, Cond.code yX0_behind cX0_behind 3 (some .int), Cond.methodLink RL 190 yX4_fire, Cond.instanceMethod yX4_fire, Cond.selects RX4 yX4_fire yX4_fire]
def wsL_law0_r29 : List Cond := [Cond.code yX4_fire cX4_fire 3 (some .int), Cond.methodLink RL 191 yL_markingCount, Cond.static yL_markingCount, Cond.codeWith yL_markingCount cL_markingCount 3 (some .int) [(0, 8, 11, 13)], Cond.methodLink RL 78 yX3_markingCount, Cond.instanceMethod yX3_markingCount, Cond.selects RX3 yX3_markingCount yX3_markingCount, Cond.code yX3_markingCount cX3_markingCount 1 (some .int), Cond.methodLink RX3 168 yX0_markingsFound, Cond.instanceMethod yX0_markingsFound, Cond.selects RX0 yX0_markingsFound yX0_markingsFound, Cond.code yX0_markingsFound cX0_markingsFound 1 (some .int), Cond.methodLink RX0 82 yX0_findMarkings, Cond.instanceMethod yX0_findMarkings, Cond.selects RX0 yX0_findMarkings yX0_findMarkings, Cond.code yX0_findMarkings cX0_findMarkings 3 none, Cond.methodLink RX0 85 yX0_canFire, Cond.methodLink RX0 88 yX0_behind, Cond.methodLink RX0 91 yX0_keepNew, Cond.instanceMethod yX0_keepNew, Cond.selects RX0 yX0_keepNew yX0_keepNew, Cond.code yX0_keepNew cX0_keepNew 3 none, Cond.methodLink RL 193 yX4_markingCount, Cond.instanceMethod yX4_markingCount]
def wsL_law0_r30 : List Cond := [Cond.selects RX4 yX4_markingCount yX4_markingCount, Cond.code yX4_markingCount cX4_markingCount 1 (some .int), Cond.methodLink RL 194 yL_markingAt, Cond.static yL_markingAt, Cond.codeWith yL_markingAt cL_markingAt 4 (some .int) [(0, 9, 12, 13), (0, 9, 15, 19)], Cond.methodLink RL 81 yX3_markingAt, Cond.instanceMethod yX3_markingAt, Cond.selects RX3 yX3_markingAt yX3_markingAt, Cond.code yX3_markingAt cX3_markingAt 2 (some .int), Cond.methodLink RX3 173 yX0_markingFound, Cond.instanceMethod yX0_markingFound, Cond.selects RX0 yX0_markingFound yX0_markingFound, Cond.code yX0_markingFound cX0_markingFound 2 (some .int), Cond.methodLink RL 196 yX4_markingAt, Cond.instanceMethod yX4_markingAt, Cond.selects RX4 yX4_markingAt yX4_markingAt, Cond.code yX4_markingAt cX4_markingAt 2 (some .int), Cond.methodLink RL 197 yL_isFaithful, Cond.static yL_isFaithful, Cond.codeWith yL_isFaithful cL_isFaithful 3 (some .int) [(0, 15, 18, 13)], Cond.methodLink RL 84 yX3_isFaithful, Cond.instanceMethod yX3_isFaithful, Cond.selects RX3 yX3_isFaithful yX3_isFaithful, Cond.code yX3_isFaithful cX3_isFaithful 1 (some .boolean)]
def wsL_law0_r31 : List Cond := [Cond.methodLink RX3 176 yX0_behavesLikeSystem, Cond.instanceMethod yX0_behavesLikeSystem, Cond.selects RX0 yX0_behavesLikeSystem yX0_behavesLikeSystem, Cond.code yX0_behavesLikeSystem cX0_behavesLikeSystem 3 (some .boolean), Cond.methodLink RX0 95 yX2_reachedStates, Cond.methodLink RX0 101 yX0_isMatched, Cond.instanceMethod yX0_isMatched, Cond.selects RX0 yX0_isMatched yX0_isMatched, Cond.code yX0_isMatched cX0_isMatched 6 (some .boolean), Cond.methodLink RX0 104 yX2_end, Cond.methodLink RL 199 yX4_isFaithful, Cond.instanceMethod yX4_isFaithful, Cond.selects RX4 yX4_isFaithful yX4_isFaithful, Cond.code yX4_isFaithful cX4_isFaithful 10 (some .boolean), Cond.methodLink RL 200 yX3_digest, Cond.instanceMethod yX3_digest, Cond.selects RX3 yX3_digest yX3_digest, Cond.code yX3_digest cX3_digest 5 (some .long), Cond.constantLong RX3 180 (151), Cond.methodLink RX3 182 yX3_mixed, Cond.static yX3_mixed, Cond.code yX3_mixed cX3_mixed 3 (some .long), Cond.constantLong RX3 186 (31), Cond.methodLink RL 204 yX4_digest]
def wsL_law0_r32 : List Cond := [Cond.instanceMethod yX4_digest, Cond.selects RX4 yX4_digest yX4_digest, Cond.code yX4_digest cX4_digest 5 (some .long), Cond.constantLong RX4 129 (4681), Cond.constantLong RX4 131 (31)]
def wsL_law0 : List Cond := (wsL_law0_r1 ++ (wsL_law0_r2 ++ (wsL_law0_r3 ++ (wsL_law0_r4 ++ (wsL_law0_r5 ++ (wsL_law0_r6 ++ (wsL_law0_r7 ++ (wsL_law0_r8 ++ (wsL_law0_r9 ++ (wsL_law0_r10 ++ (wsL_law0_r11 ++ (wsL_law0_r12 ++ (wsL_law0_r13 ++ (wsL_law0_r14 ++ (wsL_law0_r15 ++ (wsL_law0_r16 ++ (wsL_law0_r17 ++ (wsL_law0_r18 ++ (wsL_law0_r19 ++ (wsL_law0_r20 ++ (wsL_law0_r21 ++ (wsL_law0_r22 ++ (wsL_law0_r23 ++ (wsL_law0_r24 ++ (wsL_law0_r25 ++ (wsL_law0_r26 ++ (wsL_law0_r27 ++ (wsL_law0_r28 ++ (wsL_law0_r29 ++ (wsL_law0_r30 ++ (wsL_law0_r31 ++ wsL_law0_r32))))))))))))))))))))))))))))))) ++ wsX30 ++ wsX40 ++ wsX20 ++ wsX10 ++ wsX00 ++ ([] : List Cond)
def wsL_law : List Cond := wsL_law0 ++ (vx_atS RX3 42 "java/lang/IllegalStateException" ["java/lang/RuntimeException", "java/lang/Exception"]).filter goodWord ++ (vx_atS RX3 151 "java/lang/IndexOutOfBoundsException" ["java/lang/RuntimeException", "java/lang/Exception"]).filter goodWord ++ (vx_atS RX3 202 "java/lang/IllegalArgumentException" ["java/lang/RuntimeException", "java/lang/Exception"]).filter goodWord
abbrev vwCl : List vw_C := [(RX0, TX0, 11), (RX1, TX1, 4), (RX2, TX2, 5), (RX3, TX3, 3), (RX4, TX4, 12)]
end
section
/-! 03: worlds of the class (31 cells) and of the reference (5 cells), and rows that take the pure facts of the walks -/
def Inj (n : Nat) (κ : Nat → Nat) : Prop := ∀ i j : Nat, i < n → j < n → κ i = κ j → i = j
/-- a system's mutable contents: its whole numbers, its arrays -/
abbrev SX : Type := (Nat → Int32) × (Nat → Nat → Int32)
def ss (σ : SX) (k : Nat) (v : Int32) : SX := (upd σ.1 k v, σ.2)
def sa (σ : SX) (a i : Nat) (v : Int32) : SX := (σ.1, fun b => if b = a then upd (σ.2 a) i v else σ.2 b)
def gw (n : Nat) (κ : Nat → Nat) (f : Nat → va_E) : va_W := (List.range n).map fun k => (κ k, f k)
theorem gw_at {n : Nat} {κ : Nat → Nat} {f : Nat → va_E} {k : Nat} (h : k < n) : (gw n κ f)[k]? = some (κ k, f k) := by simp [gw, h]
theorem gw_of {n : Nat} {κ : Nat → Nat} {f : Nat → va_E} {k : Nat} {q : Nat × va_E} (h : (gw n κ f)[k]? = some q) : k < n ∧ q = (κ k, f k) := by
  by_cases hk : k < n
  · rw [gw_at hk] at h
    exact ⟨hk, (Option.some.inj h).symm⟩
  · rw [List.getElem?_eq_none (by simp [gw]; omega)] at h
    cases h
theorem gw_set {n : Nat} {κ : Nat → Nat} {f f' : Nat → va_E} {k : Nat} {e : va_E} (h : k < n) (hf : ∀ j, j < n → f' j = if j = k then e else f j) : (gw n κ f).set k (κ k, e) = gw n κ f' := by
  apply List.ext_getElem?
  intro j
  by_cases hj : j < n
  · rw [gw_at hj, hf j hj]
    by_cases e1 : j = k
    · subst e1
      rw [if_pos rfl, List.getElem?_set_self (by simpa [gw] using hj)]
    · rw [if_neg e1, List.getElem?_set_ne (Ne.symm e1), gw_at hj]
  · rw [List.getElem?_eq_none (by simp [gw]; omega), List.getElem?_eq_none (by simp [gw]; omega)]
theorem gw_D {n : Nat} {κ : Nat → Nat} {f : Nat → va_E} {A : Nat → Prop} (hκ : Inj n κ) (hA : ∀ k, k < n → A (κ k)) : va_D A (gw n κ f) := by
  refine ⟨fun i j p q hi hj hpq => ?_, fun k q hk => ?_⟩
  · obtain ⟨h1, rfl⟩ := gw_of hi
    obtain ⟨h2, rfl⟩ := gw_of hj
    exact hκ i j h1 h2 hpq
  · obtain ⟨h1, rfl⟩ := gw_of hk
    exact hA k h1
def gA (n : Nat) (κ : Nat → Nat) : Nat → Prop := fun q => ∃ k, k < n ∧ κ k = q
theorem gA_in {n : Nat} {κ : Nat → Nat} : ∀ k, k < n → gA n κ (κ k) := fun k h => ⟨k, h, rfl⟩
/-- the words of nest mates, which no list may hold -/
def nk (U : State) : Prop :=
  va_Nw (.fieldLinkNest RX3 34 RX2 "states" "I" RX3) U ∧ va_Nw (.fieldLinkNest RX1 54 RX2 "states" "I" RX3) U ∧ va_Nw (.fieldLinkNest RX0 98 RX2 "states" "I" RX3) U ∧
  va_Nw (.fieldLinkNest RX3 188 RX1 "known" "Z" RX3) U ∧ va_Nw (.fieldLinkNest RX3 128 RX0 "made" "Z" RX3) U ∧ va_Nw (.fieldLinkNest RX3 141 RX0 "places" "I" RX3) U ∧
  va_Nw (.fieldLinkNest RX3 135 RX0 "first" "I" RX3) U ∧ va_Nw (.fieldLinkNest RX3 138 RX0 "present" "I" RX3) U ∧
  va_Nw (.methodLinkNest RX2 65 yX3_has RX3) U ∧ va_Nw (.methodLinkNest RX1 42 yX3_has RX3) U ∧ va_Nw (.methodLinkNest RX0 75 yX3_has RX3) U
theorem nk.warm {s U : State} (hW : s.WarmedH U.vm) (h : nk s) : nk U := by
  obtain ⟨h1, h2, h3, h4, h5, h6, h7, h8, h9, h10, h11⟩ := h
  exact ⟨h1.warmF hW, h2.warmF hW, h3.warmF hW, h4.warmF hW, h5.warmF hW, h6.warmF hW, h7.warmF hW, h8.warmF hW, h9.warmM hW, h10.warmM hW, h11.warmM hW⟩
abbrev gT (cI cII : ClassId) : List (ClassId × FieldType) := [(cI, .int), (cII, .array .int)]
def KX (D : va_G) (cI cII : ClassId) (U : State) : Prop := va_K D vwCl (gT cI cII) U ∧ nk U
theorem KX.warm {D : va_G} {cI cII : ClassId} {s U : State} (hW : s.WarmedH U.vm) (h : KX D cI cII s) : KX D cI cII U := ⟨va_K.moved hW.alike h.1, nk.warm hW h.2⟩
theorem KX.calling {D : va_G} {cI cII : ClassId} {U : State} {g : JFrame} {mk : MethodId} {a : Array Value} (h : KX D cI cII U) : KX D cI cII (U.calling g mk a) :=
  KX.warm (s := U) (U := U.calling g mk a) (State.WarmedH.refl U) h
def gP (D : va_G) (cI cII : ClassId) (n : Nat) (κ : Nat → Nat) (f : Nat → va_E) (U : State) : Prop := va_P D vwCl (gw n κ f) U.heap ∧ KX D cI cII U
theorem gP.blind {av : List Value} {D : va_G} {cI cII : ClassId} {n : Nat} {κ : Nat → Nat} {f : Nat → va_E} : FrameBlind (va_Pc av (gP D cI cII n κ f)) := fun _ _ _ _ h => ⟨h.1, h.2.1, h.2.2.calling⟩
/-- what a world of n cells holds behind a callee that changed its first n0 -/
theorem gw_behind {D : va_G} {n0 n : Nat} {κ : Nat → Nat} {f f' : Nat → va_E} {H H1 : Heap} (hn : n0 ≤ n) (hκ : Inj n κ) (hP : va_P D vwCl (gw n κ f) H) (hP1 : va_P D vwCl (gw n0 κ f') H1)
    (hff : ∀ j, n0 ≤ j → j < n → f' j = f j) (hk : ∀ q : Nat, q < H.size → ¬ gA n0 κ q → H1[q]? = H[q]?) : va_P D vwCl (gw n κ f') H1 := by
  intro k q hq
  obtain ⟨h1, rfl⟩ := gw_of hq
  by_cases h2 : k < n0
  · exact hP1 k _ (gw_at h2)
  · have h3 := hP k _ (gw_at h1)
    have h4 : va_at D vwCl (κ k, f k) H1 := h3.kept (hk _ h3.lt (fun ⟨j, hj, e⟩ => by
      have := hκ j k (by omega) h1 e
      omega))
    rw [hff k (by omega) h1]
    exact h4
/-! pure helpers of the walks -/
def letb {α β : Type} (e : α) (k : α → β) : β := k e
theorem letb_w {α β : Type} {e : α} {k : α → β} {r : β} (h : letb e k = r) : ∃ x, x = e ∧ k x = r := ⟨e, rfl, h⟩
theorem obw {α β : Type} {o : Option α} {k : α → Option β} {r : β} (h : o.bind k = some r) : ∃ x, o = some x ∧ k x = some r := Option.bind_eq_some_iff.mp h
def bind2 {α β γ : Type} (o : Option (α × β)) (k : α → β → Option γ) : Option γ := o.bind fun q => k q.1 q.2
theorem bind2_w {α β γ : Type} {o : Option (α × β)} {k : α → β → Option γ} {r : γ} (h : bind2 o k = some r) : ∃ x y, o = some (x, y) ∧ k x y = some r := by
  obtain ⟨q, h1, h2⟩ := obw h
  exact ⟨q.1, q.2, h1, h2⟩
theorem iteT {α : Type} {c : Prop} [Decidable c] {a b r : α} (h : c) (hf : (if c then a else b) = r) : a = r := (if_pos h).symm.trans hf
theorem iteF {α : Type} {c : Prop} [Decidable c] {a b r : α} (h : ¬ c) (hf : (if c then a else b) = r) : b = r := (if_neg h).symm.trans hf
def ixo (i : Int32) (n : Nat) : Bool := decide (i < 0) || decide (n ≤ i.toNatClampNeg)
def ag (σ : SX) (a len : Nat) (i : Int32) : Option Int32 := if ixo i len then none else some (σ.2 a i.toNatClampNeg)
def as_ (σ : SX) (a len : Nat) (i v : Int32) : Option SX := if ixo i len then none else some (sa σ a i.toNatClampNeg v)
def arow (i : Int32) : Option Nat := if ixo i 6 then none else some i.toNatClampNeg
theorem ixo_in {i : Int32} {n : Nat} (h : ¬ ixo i n = true) : vp_in i n := by
  intro q
  apply h
  simp only [ixo, Bool.or_eq_true, decide_eq_true_eq]
  exact q
theorem ag_w {σ : SX} {a len : Nat} {i x : Int32} (h : ag σ a len i = some x) : vp_in i len ∧ x = σ.2 a i.toNatClampNeg := by
  unfold ag at h
  split at h
  · cases h
  · next h1 => exact ⟨ixo_in h1, (Option.some.inj h).symm⟩
theorem as_w {σ σ' : SX} {a len : Nat} {i v : Int32} (h : as_ σ a len i v = some σ') : vp_in i len ∧ σ' = sa σ a i.toNatClampNeg v := by
  unfold as_ at h
  split at h
  · cases h
  · next h1 => exact ⟨ixo_in h1, (Option.some.inj h).symm⟩
theorem arow_w {i : Int32} {r : Nat} (h : arow i = some r) : vp_in i 6 ∧ i.toNatClampNeg = r ∧ r < 6 := by
  unfold arow at h
  split at h
  · cases h
  · next h1 =>
    have h2 := ixo_in h1
    have h3 := Option.some.inj h
    exact ⟨h2, h3, by rw [← h3]; exact Nat.not_le.mp fun q => h2 (Or.inr q)⟩
/-- an answer that is a boolean -/
def zr (v : Int32) : Option Int32 := if v = 0 ∨ v = 1 then some v else none
theorem zr_w {v r : Int32} (h : zr v = some r) : v = r ∧ narrow .boolean (.int v) = .int v := by
  unfold zr at h
  split at h
  · next h1 =>
    refine ⟨Option.some.inj h, ?_⟩
    rcases h1 with rfl | rfl <;> rfl
  · cases h
def loopF {F : Type} : Nat → (F → F) → F → F
  | 0, _, bot => bot
  | k + 1, body, bot => body (loopF k body bot)
theorem loopF_w {F : Type} {body : F → F} {bot : F} {P : F → Prop} (h0 : P bot) (hs : ∀ g, P g → P (body g)) : ∀ k, P (loopF k body bot)
  | 0 => h0
  | k + 1 => hs _ (loopF_w h0 hs k)
def FU : Nat := 5000
/-! rows -/
section GR
variable {p : Program} {l : Launch} {e : Env} {R : Room} {s : State} {m : MethodId} {args : Array Value} {below : List Frame} {meth : Method} {c : Code} {H : Heap} {locs : List Loc} {cells slots : Nat} {Q : State → Prop}
variable {cc : ByteArray} {pc : Nat} {ls : Array Slot} {rest : List Value} {D : va_G} {A : Nat → Prop} {n : Nat} {κ : Nat → Nat} {f f' : Nat → va_E} {cI cII : ClassId} {nL : Nat} {Ts : List Cond} {own : String}
theorem lv_nmi {x v : Int32} (h : x = v) (k : W p l e R s m args below meth c H locs cells slots Q (F0 m pc ls (.int x :: rest))) : W p l e R s m args below meth c H locs cells slots Q (F0 m pc ls (.int v :: rest)) := h ▸ k
theorem lv_nml {x v : Int64} (h : x = v) (k : W p l e R s m args below meth c H locs cells slots Q (F0 m pc ls (.long x :: rest))) : W p l e R s m args below meth c H locs cells slots Q (F0 m pc ls (.long v :: rest)) := h ▸ k
theorem lv_nmd {x v : UInt64} (h : x = v) (k : W p l e R s m args below meth c H locs cells slots Q (F0 m pc ls (.double x :: rest))) : W p l e R s m args below meth c H locs cells slots Q (F0 m pc ls (.double v :: rest)) := h ▸ k
theorem g_ald {σ : SX} {a len : Nat} {i x : Int32} (S : CallFix p m c cc nL s args Ts own) (hK : KX D cI cII s) (hP : va_P D vwCl (gw n κ f) H) (ha : a < n) (hfa : f a = .inl (cI, len, .inl (σ.2 a))) (hag : ag σ a len i = some x) (hdg : decode cc pc = .ok (.iaload, 1))
    (kk : W p l e R s m args below meth c H locs cells slots Q (F0 m (pc + 1) ls (.int x :: rest))) : W p l e R s m args below meth c H locs cells slots Q (F0 m pc ls (.int i :: .ref (κ a) :: rest)) := by
  obtain ⟨h1, rfl⟩ := ag_w hag
  exact va_iald S.1 S.2.1 hK.1 hP a 0 (by rw [gw_at ha, hfa]) rfl h1 hdg kk
theorem g_ast {σ σ' : SX} {a len : Nat} {i x : Int32} (S : CallFix p m c cc nL s args Ts own) (hK : KX D cI cII s) (hP : va_P D vwCl (gw n κ f) H) (hκ : Inj n κ) (hA : ∀ k, k < n → A (κ k)) (hS : va_S A s.heap H locs) (ha : a < n) (hfa : f a = .inl (cI, len, .inl (σ.2 a))) (has : as_ σ a len i x = some σ')
    (hf' : ∀ j, j < n → f' j = if j = a then .inl (cI, len, .inl (upd (σ.2 a) i.toNatClampNeg x)) else f j) (hdg : decode cc pc = .ok (.iastore, 1))
    (kk : ∀ (H : Heap) (locs : List Loc), va_P D vwCl (gw n κ f') H → va_S A s.heap H locs → W p l e R s m args below meth c H locs cells slots Q (F0 m (pc + 1) ls rest)) : W p l e R s m args below meth c H locs cells slots Q (F0 m pc ls (.int x :: .int i :: .ref (κ a) :: rest)) := by
  obtain ⟨h1, -⟩ := as_w has
  refine va_iast S.1 S.2.1 hK.1 hP (gw_D hκ hA) hS a 0 (by rw [gw_at ha, hfa]) rfl h1 hdg (fun H1 locs1 hP1 _ hS1 => kk H1 locs1 ?_ hS1)
  rw [gw_set ha hf'] at hP1
  exact hP1
theorem g_aald {q b r : Nat} {i : Int32} (S : CallFix p m c cc nL s args Ts own) (hK : KX D cI cII s) (hP : va_P D vwCl (gw n κ f) H) (hq : q < n) (hfq : f q = .inl (cII, 6, .inr (.inr (.inr (.inr (fun i => some (κ (b + i)))))))) (har : arow i = some r) (hdg : decode cc pc = .ok (.aaload, 1))
    (kk : W p l e R s m args below meth c H locs cells slots Q (F0 m (pc + 1) ls (.ref (κ (b + r)) :: rest))) : W p l e R s m args below meth c H locs cells slots Q (F0 m pc ls (.int i :: .ref (κ q) :: rest)) := by
  obtain ⟨hin, h2, h3⟩ := arow_w har
  have hlt : i.toNatClampNeg < 6 := by rw [h2]; exact h3
  have haq : (gw n κ f)[q]? = some (κ q, .inl (cII, 6, .inr (.inr (.inr (.inr (fun i => some (κ (b + i)))))))) := by rw [gw_at hq, hfq]
  refine W.aald (v := va_rf (some (κ (b + r)))) (ty := .array .int) S.1 S.2.1 (hP q _ haq) ((hK.1.2 1 _ rfl).1 6 (fun j => va_rf (some (κ (b + j))))) rfl (fun q => by cases q) (by show ¬ (i < 0 ∨ (arrV _ _ _).slots.size ≤ _); rw [arrV_size]; exact hin) (by show (arrV _ _ _).slots[_]? = _; rw [arrV_read _ _ hlt, h2]) rfl rfl hdg kk
theorem g_put {q ci N k index : Nat} {C ref : String} {T : u_T} {fs : List Value} {v : Value} {ty : FieldType} {ty0 : Nat → FieldType} (S : CallFix p m c cc nL s args Ts own) (hK : KX D cI cII s) (hP : va_P D vwCl (gw n κ f) H) (hκ : Inj n κ) (hA : ∀ k, k < n → A (κ k)) (hS : va_S A s.heap H locs)
    (hin : ∀ w ∈ u_ws C T N, w ∈ Ts) (hty : ∀ k, k < N → parseFieldDescriptor (T k).2.2.1 = some (ty0 k)) (hnm : ∀ a, a < N → ∀ b, b < N → a ≠ b → (T a).2.1 ≠ (T b).2.1)
    (hq : q < n) (hfq : f q = .inr (ci, fs)) (hc : vwCl[ci]? = some (C, T, N)) (hk : k < N) (href : ref = (T k).1) (hlink : Cond.fieldLink own index ref (T k).2.1 (T k).2.2.1 ∈ Ts) (hfin : (T k).2.2.2 = false)
    (hd : parseFieldDescriptor (T k).2.2.1 = some ty) (hn : narrow ty v = v) (hfit : fits ty v = true) (hl : k < fs.length) (hf' : ∀ j, j < n → f' j = if j = q then .inr (ci, fs.set k v) else f j) (hdg : decode cc pc = .ok (.putfield index, 3))
    (kk : ∀ (H : Heap) (locs : List Loc), va_P D vwCl (gw n κ f') H → va_S A s.heap H locs → W p l e R s m args below meth c H locs cells slots Q (F0 m (pc + 3) ls rest)) : W p l e R s m args below meth c H locs cells slots Q (F0 m pc ls (v :: .ref (κ q) :: rest)) := by
  subst href
  refine va_put S.1 S.2.1 S.2.2.2.2 hin ty0 hty hnm S.2.2.2.1 hK.1 hP (gw_D hκ hA) hS q (by rw [gw_at hq, hfq]) hc k hk (S.2.2.2.2 _ hlink) (fun _ h9 => h9) hfin hd hn hfit hl hdg (fun H1 locs1 hP1 _ hS1 => kk H1 locs1 ?_ hS1)
  rw [gw_set hq hf'] at hP1
  exact hP1
theorem g_putN {q ci N k index : Nat} {C ref host : String} {T : u_T} {fs : List Value} {v : Value} {ty : FieldType} {ty0 : Nat → FieldType} (S : CallFix p m c cc nL s args Ts own) (hK : KX D cI cII s) (hP : va_P D vwCl (gw n κ f) H) (hκ : Inj n κ) (hA : ∀ k, k < n → A (κ k)) (hS : va_S A s.heap H locs)
    (hin : ∀ w ∈ u_ws C T N, w ∈ Ts) (hty : ∀ k, k < N → parseFieldDescriptor (T k).2.2.1 = some (ty0 k)) (hnm : ∀ a, a < N → ∀ b, b < N → a ≠ b → (T a).2.1 ≠ (T b).2.1)
    (hq : q < n) (hfq : f q = .inr (ci, fs)) (hc : vwCl[ci]? = some (C, T, N)) (hk : k < N) (href : ref = (T k).1) (hlink : va_Nw (.fieldLinkNest own index ref (T k).2.1 (T k).2.2.1 host) s) (hfin : (T k).2.2.2 = false)
    (hd : parseFieldDescriptor (T k).2.2.1 = some ty) (hn : narrow ty v = v) (hfit : fits ty v = true) (hl : k < fs.length) (hf' : ∀ j, j < n → f' j = if j = q then .inr (ci, fs.set k v) else f j) (hdg : decode cc pc = .ok (.putfield index, 3))
    (kk : ∀ (H : Heap) (locs : List Loc), va_P D vwCl (gw n κ f') H → va_S A s.heap H locs → W p l e R s m args below meth c H locs cells slots Q (F0 m (pc + 3) ls rest)) : W p l e R s m args below meth c H locs cells slots Q (F0 m pc ls (v :: .ref (κ q) :: rest)) := by
  subst href
  refine va_putN S.1 S.2.1 S.2.2.2.2 hin ty0 hty hnm S.2.2.2.1 hK.1 hP (gw_D hκ hA) hS q (by rw [gw_at hq, hfq]) hc k hk (va_Nw.use rfl hlink) (fun _ h9 => h9) hfin hd hn hfit hl hdg (fun H1 locs1 hP1 _ hS1 => kk H1 locs1 ?_ hS1)
  rw [gw_set hq hf'] at hP1
  exact hP1
theorem g_get {q ci N k index : Nat} {C ref : String} {T : u_T} {fs : List Value} {v : Value} (S : CallFix p m c cc nL s args Ts own) (hK : KX D cI cII s) (hP : va_P D vwCl (gw n κ f) H) (hin : ∀ w ∈ u_ws C T N, w ∈ Ts) 
    (hq : q < n) (hfq : f q = .inr (ci, fs)) (hc : vwCl[ci]? = some (C, T, N)) (hk : k < N) (href : ref = (T k).1) (hlink : Cond.fieldLink own index ref (T k).2.1 (T k).2.2.1 ∈ Ts) (hv : fs[k]? = some v) (hdg : decode cc pc = .ok (.getfield index, 3))
    (kk : W p l e R s m args below meth c H locs cells slots Q (F0 m (pc + 3) ls (v :: rest))) : W p l e R s m args below meth c H locs cells slots Q (F0 m pc ls (.ref (κ q) :: rest)) := by
  subst href
  exact va_get S.1 S.2.1 S.2.2.2.2 hin S.2.2.2.1 hK.1 hP q (by rw [gw_at hq, hfq]) hc k hk (S.2.2.2.2 _ hlink) (fun _ h9 => h9) hv hdg kk
theorem g_getN {q ci N k index : Nat} {C ref host : String} {T : u_T} {fs : List Value} {v : Value} (S : CallFix p m c cc nL s args Ts own) (hK : KX D cI cII s) (hP : va_P D vwCl (gw n κ f) H) (hin : ∀ w ∈ u_ws C T N, w ∈ Ts) 
    (hq : q < n) (hfq : f q = .inr (ci, fs)) (hc : vwCl[ci]? = some (C, T, N)) (hk : k < N) (href : ref = (T k).1) (hlink : va_Nw (.fieldLinkNest own index ref (T k).2.1 (T k).2.2.1 host) s) (hv : fs[k]? = some v) (hdg : decode cc pc = .ok (.getfield index, 3))
    (kk : W p l e R s m args below meth c H locs cells slots Q (F0 m (pc + 3) ls (v :: rest))) : W p l e R s m args below meth c H locs cells slots Q (F0 m pc ls (.ref (κ q) :: rest)) := by
  subst href
  exact va_getN S.1 S.2.1 S.2.2.2.2 hin S.2.2.2.1 hK.1 hP q (by rw [gw_at hq, hfq]) hc k hk (va_Nw.use rfl hlink) (fun _ h9 => h9) hv hdg kk
/-! ends -/
variable {free : Addr → Prop}
theorem g_iret {r v : Int32} (S : CallFix p m c cc nL s args Ts own) (hr : meth.sig.returnType = some .int) (hlk : meth.locks = false) (hK : KX D cI cII s) (hP : va_P D vwCl (gw n κ f) H) (hS : va_S A s.heap H locs) (hv : v = r) (hdg : decode cc pc = .ok (.ireturn, 1)) :
    W p l e R s m args below meth c H locs cells slots (MQ below (va_Qi (fun (r' : Int32) (_ : Unit) => r' = r) (fun _ => gP D cI cII n κ f) A) args s cells slots A) (F0 m pc ls [.int v]) :=
  W.iret (v := v) S.1 S.2.1 hr (fun t ht hW => ⟨⟨v, (), rfl, hv, by rw [ht]; exact hP, KX.warm hW hK⟩, hS.F ht⟩) hS.2.2 hdg hlk
theorem g_zret {r v : Int32} (S : CallFix p m c cc nL s args Ts own) (hr : meth.sig.returnType = some .boolean) (hlk : meth.locks = false) (hK : KX D cI cII s) (hP : va_P D vwCl (gw n κ f) H) (hS : va_S A s.heap H locs) (hv : zr v = some r) (hdg : decode cc pc = .ok (.ireturn, 1)) :
    W p l e R s m args below meth c H locs cells slots (MQ below (va_Qi (fun (r' : Int32) (_ : Unit) => r' = r) (fun _ => gP D cI cII n κ f) A) args s cells slots A) (F0 m pc ls [.int v]) :=
  W.zret (v := v) (ty := .boolean) S.1 S.2.1 hr (zr_w hv).2 (fun t ht hW => ⟨⟨v, (), rfl, (zr_w hv).1, by rw [ht]; exact hP, KX.warm hW hK⟩, hS.F ht⟩) hS.2.2 hdg hlk
theorem g_lret {r v : Int64} (S : CallFix p m c cc nL s args Ts own) (hr : meth.sig.returnType = some .long) (hlk : meth.locks = false) (hK : KX D cI cII s) (hP : va_P D vwCl (gw n κ f) H) (hS : va_S A s.heap H locs) (hv : v = r) (hdg : decode cc pc = .ok (.lreturn, 1)) :
    W p l e R s m args below meth c H locs cells slots (MQ below (va_Ql (fun (r' : Int64) (_ : Unit) => r' = r) (fun _ => gP D cI cII n κ f) A) args s cells slots A) (F0 m pc ls [.long v]) :=
  W.lret (v := v) S.1 S.2.1 hr (fun t ht hW => ⟨⟨v, (), rfl, hv, by rw [ht]; exact hP, KX.warm hW hK⟩, hS.F ht⟩) hS.2.2 hdg hlk
theorem g_dret {r v : UInt64} (S : CallFix p m c cc nL s args Ts own) (hr : meth.sig.returnType = some .double) (hlk : meth.locks = false) (hK : KX D cI cII s) (hP : va_P D vwCl (gw n κ f) H) (hS : va_S A s.heap H locs) (hv : v = r) (hdg : decode cc pc = .ok (.dreturn, 1)) :
    W p l e R s m args below meth c H locs cells slots (MQ below (va_Qd (fun (r' : UInt64) (_ : Unit) => r' = r) (fun _ => gP D cI cII n κ f) A) args s cells slots A) (F0 m pc ls [.double v]) :=
  W.dret (v := v) S.1 S.2.1 hr (fun t ht hW => ⟨⟨v, (), rfl, hv, by rw [ht]; exact hP, KX.warm hW hK⟩, hS.F ht⟩) hS.2.2 hdg hlk
theorem g_vret (S : CallFix p m c cc nL s args Ts own) (hr : meth.sig.returnType = none) (hlk : meth.locks = false) (hK : KX D cI cII s) (hP : va_P D vwCl (gw n κ f) H) (hS : va_S A s.heap H locs) (hdg : decode cc pc = .ok (.return_, 1)) :
    W p l e R s m args below meth c H locs cells slots (MQ below (va_Qv (fun (_ : Unit) => True) (fun _ => gP D cI cII n κ f) A) args s cells slots A) (F0 m pc ls []) :=
  W.vret S.1 S.2.1 hr (fun t ht hW => ⟨⟨(), rfl, trivial, by rw [ht]; exact hP, KX.warm hW hK⟩, hS.F ht⟩) hS.2.2 hdg hlk
/-! calls: the callee has the first n0 cells -/
variable {n0 : Nat} {y : MethodName} {bytes : ByteArray} {maxL na index : Nat} {ret : Option FieldType} {ws : List Cond} {rm : Room} {As st0 : List Value} {ar : Array Value}
theorem g_calli {r : Int32} (hr : va_Run p l e R s m args below meth c H locs cells slots 0 0 (F0 m pc ls st0) rest (va_Qi (fun (r' : Int32) (_ : Unit) => r' = r) (fun _ => gP D cI cII n0 κ f') (gA n0 κ) ar) (gA n0 κ))
    (hn0 : n0 ≤ n) (hκ : Inj n κ) (hA : ∀ k, k < n → A (κ k)) (hP : va_P D vwCl (gw n κ f) H) (hS : va_S A s.heap H locs) (hff : ∀ j, n0 ≤ j → j < n → f' j = f j)
    (kk : ∀ (H : Heap) (locs : List Loc), va_P D vwCl (gw n κ f') H → va_S A s.heap H locs → W p l e R s m args below meth c H locs cells slots Q (F0 m (pc + 3) ls (.int r :: rest))) : W p l e R s m args below meth c H locs cells slots Q (F0 m pc ls st0) := by
  have hAA : ∀ q, gA n0 κ q → A q := fun q ⟨k, hk, e⟩ => e ▸ hA k (by omega)
  refine va_calli hr hS (fun q _ h => hAA q h) hAA (fun r1 u t H1 locs1 ht hvm hw hB hz1 hk1 hS1 => ?_)
  subst hw
  exact kk H1 locs1 (gw_behind hn0 hκ hP (by rw [← ht]; exact hB.1) hff hk1) hS1
theorem g_calll {r : Int64} (hr : va_Run p l e R s m args below meth c H locs cells slots 0 0 (F0 m pc ls st0) rest (va_Ql (fun (r' : Int64) (_ : Unit) => r' = r) (fun _ => gP D cI cII n0 κ f') (gA n0 κ) ar) (gA n0 κ))
    (hn0 : n0 ≤ n) (hκ : Inj n κ) (hA : ∀ k, k < n → A (κ k)) (hP : va_P D vwCl (gw n κ f) H) (hS : va_S A s.heap H locs) (hff : ∀ j, n0 ≤ j → j < n → f' j = f j)
    (kk : ∀ (H : Heap) (locs : List Loc), va_P D vwCl (gw n κ f') H → va_S A s.heap H locs → W p l e R s m args below meth c H locs cells slots Q (F0 m (pc + 3) ls (.long r :: rest))) : W p l e R s m args below meth c H locs cells slots Q (F0 m pc ls st0) := by
  have hAA : ∀ q, gA n0 κ q → A q := fun q ⟨k, hk, e⟩ => e ▸ hA k (by omega)
  refine va_calll hr hS (fun q _ h => hAA q h) hAA (fun r1 u t H1 locs1 ht hvm hw hB hz1 hk1 hS1 => ?_)
  subst hw
  exact kk H1 locs1 (gw_behind hn0 hκ hP (by rw [← ht]; exact hB.1) hff hk1) hS1
theorem g_callv (hr : va_Run p l e R s m args below meth c H locs cells slots 0 0 (F0 m pc ls st0) rest (va_Qv (fun (_ : Unit) => True) (fun _ => gP D cI cII n0 κ f') (gA n0 κ) ar) (gA n0 κ))
    (hn0 : n0 ≤ n) (hκ : Inj n κ) (hA : ∀ k, k < n → A (κ k)) (hP : va_P D vwCl (gw n κ f) H) (hS : va_S A s.heap H locs) (hff : ∀ j, n0 ≤ j → j < n → f' j = f j)
    (kk : ∀ (H : Heap) (locs : List Loc), va_P D vwCl (gw n κ f') H → va_S A s.heap H locs → W p l e R s m args below meth c H locs cells slots Q (F0 m (pc + 3) ls rest)) : W p l e R s m args below meth c H locs cells slots Q (F0 m pc ls st0) := by
  have hAA : ∀ q, gA n0 κ q → A q := fun q ⟨k, hk, e⟩ => e ▸ hA k (by omega)
  refine va_callv hr hS (fun q _ h => hAA q h) hAA (fun u t H1 locs1 ht hvm hw hB hz1 hk1 hS1 => ?_)
  exact kk H1 locs1 (gw_behind hn0 hκ hP (by rw [← ht]; exact hB.1) hff hk1) hS1
/-- what a callee asks: its receiver is the cell q of the world -/
theorem g_preV {q ci : Nat} {C : String} {T : u_T} {N : Nat} {fs : List Value} (hK : KX D cI cII s) (hP : va_P D vwCl (gw n κ f) H) (hn0 : n0 ≤ n) (hq : q < n) (hfq : f q = .inr (ci, fs)) (hc : vwCl[ci]? = some (C, T, N)) :
    PreV s H C (κ q) (va_Pc (.ref (κ q) :: As) (gP D cI cII n0 κ f)) As :=
  ⟨gP.blind, va_recv hK.1 hP hc (q0 := q) (by rw [gw_at hq, hfq]), fun U hU hW => ⟨rfl, by
    rw [hU]
    intro k x hk
    obtain ⟨h1, rfl⟩ := gw_of hk
    exact hP k _ (gw_at (by omega)), KX.warm hW hK⟩⟩
theorem g_preS (hK : KX D cI cII s) (hP : va_P D vwCl (gw n κ f) H) (hn0 : n0 ≤ n) : PreS s H (va_Pc As (gP D cI cII n0 κ f)) As :=
  ⟨gP.blind, fun U hU hW => ⟨rfl, by
    rw [hU]
    intro k x hk
    obtain ⟨h1, rfl⟩ := gw_of hk
    exact hP k _ (gw_at (by omega)), KX.warm hW hK⟩⟩
end GR
theorem g_enter {l : Launch} {y : MethodName} {ws ws' : List Cond} {rm : Room} {cc : ByteArray} {maxL : Nat} {ret : Option FieldType} {av : List Value} {Bp : State → Prop} {Qc : Array Value → State → Outcome → State → Prop} {mc ms : Nat} {free : Addr → Prop}
    (hy : plainName y.cls = true) (hw : ws = Cond.code y cc maxL ret :: ws') (hle : (lg_sl av).length ≤ maxL)
    (body : ∀ (p : Program) (e : Env) (s : State) (m : MethodId) (args : Array Value) (below : List Frame) (meth : Method) (c : Code) (ls : Array Slot),
      CallFix p m c cc maxL s args ws y.cls → meth.sig.returnType = ret → meth.locks = false → meth.name = y.name → Bp s → lv_has ls maxL (lv_args 0 av) →
      W p l e rm s m args below meth c s.heap [] 0 0 (MQ below Qc args s mc ms free) (F0 m 0 ls [])) : Met l y ws rm (va_Pc av Bp) Qc mc ms free := by
  refine Met.ofW (cc := cc) (maxL := maxL) (ret := ret) hy hw ?_
  intro p e s m args below meth c s₁ B hml hv
  obtain ⟨rfl, hB⟩ := hv
  have hl := lv_entry av (n := maxL) hle
  rw [lg_entry_eq]
  exact body p e s m _ below meth c _ ⟨B.exec, B.bytes, hml, findClass_of_methodNamed B.named, atoms_spec (ws := ws) B.pre⟩ B.returns B.notSynchronized (name_of_methodNamed B.named B.method).1 hB hl
end
section
/-! 03b: what the cells hold -/
def xLen (k : Nat) : Nat := match k with
  | 5 => 6
  | 8 => 4094
  | 9 => 30
  | 10 => 6
  | 11 => 6
  | 12 => 200
  | k => if k < 19 then 12 else 64
def xC (cI cII : ClassId) (κ : Nat → Nat) (σ : SX) (k : Nat) : va_E := match k with
  | 0 => .inr (3, [.ref (κ 1), .ref (κ 2), .ref (κ 3)])
  | 1 => .inr (2, [.int (σ.1 0), .ref (κ 4), .ref (κ 5), .ref (κ 6), .ref (κ 7)])
  | 2 => .inr (1, [.ref (κ 1), .ref (κ 8), .int (σ.1 1), .int (σ.1 2)])
  | 3 => .inr (0, [.ref (κ 1), .ref (κ 2), .int (σ.1 3), .int (σ.1 4), .ref (κ 9), .ref (κ 10), .ref (κ 11), .int (σ.1 5), .int (σ.1 6), .ref (κ 12), .int (σ.1 7)])
  | 4 => .inl (cII, 6, .inr (.inr (.inr (.inr (fun i => some (κ (13 + i)))))))
  | 6 => .inl (cII, 6, .inr (.inr (.inr (.inr (fun i => some (κ (19 + i)))))))
  | 7 => .inl (cII, 6, .inr (.inr (.inr (.inr (fun i => some (κ (25 + i)))))))
  | k => .inl (cI, xLen k, .inl (σ.2 k))
theorem xLen13 {r : Nat} (h : r < 6) : xLen (13 + r) = 12 := by
  rcases (show r = 0 ∨ r = 1 ∨ r = 2 ∨ r = 3 ∨ r = 4 ∨ r = 5 by omega) with rfl | rfl | rfl | rfl | rfl | rfl <;> rfl
theorem xLen19 {r : Nat} (h : r < 6) : xLen (19 + r) = 64 := by
  rcases (show r = 0 ∨ r = 1 ∨ r = 2 ∨ r = 3 ∨ r = 4 ∨ r = 5 by omega) with rfl | rfl | rfl | rfl | rfl | rfl <;> rfl
theorem xLen25 {r : Nat} (h : r < 6) : xLen (25 + r) = 64 := by
  rcases (show r = 0 ∨ r = 1 ∨ r = 2 ∨ r = 3 ∨ r = 4 ∨ r = 5 by omega) with rfl | rfl | rfl | rfl | rfl | rfl <;> rfl
theorem xLenS {a : Nat} (h : 19 ≤ a) : xLen a = 64 := by
  unfold xLen
  split <;> first | omega | (rw [if_neg (by omega)])
theorem xC_arr {cI cII : ClassId} {κ : Nat → Nat} {σ : SX} {a len : Nat} (ha : a = 5 ∨ 8 ≤ a) (hl : xLen a = len) : xC cI cII κ σ a = .inl (cI, len, .inl (σ.2 a)) := by
  subst hl
  unfold xC
  split <;> first | rfl | (exfalso; omega)
theorem xC_sa {cI cII : ClassId} {κ : Nat → Nat} {σ : SX} {a i : Nat} {v : Int32} (ha : a = 5 ∨ 8 ≤ a) (j : Nat) : xC cI cII κ (sa σ a i v) j = if j = a then .inl (cI, xLen a, .inl (upd (σ.2 a) i v)) else xC cI cII κ σ j := by
  by_cases h : j = a
  · subst h
    rw [if_pos rfl, xC_arr ha rfl]
    simp [sa]
  · rw [if_neg h]
    unfold xC
    split <;> first | rfl | simp [sa, h]
theorem xC_as {cI cII : ClassId} {κ : Nat → Nat} {σ σ' : SX} {a len : Nat} {i v : Int32} (hq : as_ σ a len i v = some σ') (ha : a = 5 ∨ 8 ≤ a) (hl : xLen a = len) (j : Nat) : xC cI cII κ σ' j = if j = a then .inl (cI, len, .inl (upd (σ.2 a) i.toNatClampNeg v)) else xC cI cII κ σ j := by
  obtain ⟨-, rfl⟩ := as_w hq
  rw [xC_sa ha, hl]
theorem xC_p0 {cI cII : ClassId} {κ : Nat → Nat} {σ : SX} {v : Int32} (j : Nat) : xC cI cII κ (ss σ 0 v) j = if j = 1 then .inr (2, [.int v, .ref (κ 4), .ref (κ 5), .ref (κ 6), .ref (κ 7)]) else xC cI cII κ σ j := by
  by_cases h : j = 1
  · subst h; rfl
  · rw [if_neg h]; unfold xC; split <;> first | rfl | (exfalso; exact h rfl)
theorem xC_p1 {cI cII : ClassId} {κ : Nat → Nat} {σ : SX} {v : Int32} (j : Nat) : xC cI cII κ (ss σ 1 v) j = if j = 2 then .inr (1, [.ref (κ 1), .ref (κ 8), .int v, .int (σ.1 2)]) else xC cI cII κ σ j := by
  by_cases h : j = 2
  · subst h; rfl
  · rw [if_neg h]; unfold xC; split <;> first | rfl | (exfalso; exact h rfl)
theorem xC_p2 {cI cII : ClassId} {κ : Nat → Nat} {σ : SX} {v : Int32} (j : Nat) : xC cI cII κ (ss σ 2 v) j = if j = 2 then .inr (1, [.ref (κ 1), .ref (κ 8), .int (σ.1 1), .int v]) else xC cI cII κ σ j := by
  by_cases h : j = 2
  · subst h; rfl
  · rw [if_neg h]; unfold xC; split <;> first | rfl | (exfalso; exact h rfl)
theorem xC_p3 {cI cII : ClassId} {κ : Nat → Nat} {σ : SX} {v : Int32} (j : Nat) : xC cI cII κ (ss σ 3 v) j = if j = 3 then .inr (0, [.ref (κ 1), .ref (κ 2), .int v, .int (σ.1 4), .ref (κ 9), .ref (κ 10), .ref (κ 11), .int (σ.1 5), .int (σ.1 6), .ref (κ 12), .int (σ.1 7)]) else xC cI cII κ σ j := by
  by_cases h : j = 3
  · subst h; rfl
  · rw [if_neg h]; unfold xC; split <;> first | rfl | (exfalso; exact h rfl)
theorem xC_p4 {cI cII : ClassId} {κ : Nat → Nat} {σ : SX} {v : Int32} (j : Nat) : xC cI cII κ (ss σ 4 v) j = if j = 3 then .inr (0, [.ref (κ 1), .ref (κ 2), .int (σ.1 3), .int v, .ref (κ 9), .ref (κ 10), .ref (κ 11), .int (σ.1 5), .int (σ.1 6), .ref (κ 12), .int (σ.1 7)]) else xC cI cII κ σ j := by
  by_cases h : j = 3
  · subst h; rfl
  · rw [if_neg h]; unfold xC; split <;> first | rfl | (exfalso; exact h rfl)
theorem xC_p5 {cI cII : ClassId} {κ : Nat → Nat} {σ : SX} {v : Int32} (j : Nat) : xC cI cII κ (ss σ 5 v) j = if j = 3 then .inr (0, [.ref (κ 1), .ref (κ 2), .int (σ.1 3), .int (σ.1 4), .ref (κ 9), .ref (κ 10), .ref (κ 11), .int v, .int (σ.1 6), .ref (κ 12), .int (σ.1 7)]) else xC cI cII κ σ j := by
  by_cases h : j = 3
  · subst h; rfl
  · rw [if_neg h]; unfold xC; split <;> first | rfl | (exfalso; exact h rfl)
theorem xC_p6 {cI cII : ClassId} {κ : Nat → Nat} {σ : SX} {v : Int32} (j : Nat) : xC cI cII κ (ss σ 6 v) j = if j = 3 then .inr (0, [.ref (κ 1), .ref (κ 2), .int (σ.1 3), .int (σ.1 4), .ref (κ 9), .ref (κ 10), .ref (κ 11), .int (σ.1 5), .int v, .ref (κ 12), .int (σ.1 7)]) else xC cI cII κ σ j := by
  by_cases h : j = 3
  · subst h; rfl
  · rw [if_neg h]; unfold xC; split <;> first | rfl | (exfalso; exact h rfl)
theorem xC_p7 {cI cII : ClassId} {κ : Nat → Nat} {σ : SX} {v : Int32} (j : Nat) : xC cI cII κ (ss σ 7 v) j = if j = 3 then .inr (0, [.ref (κ 1), .ref (κ 2), .int (σ.1 3), .int (σ.1 4), .ref (κ 9), .ref (κ 10), .ref (κ 11), .int (σ.1 5), .int (σ.1 6), .ref (κ 12), .int v]) else xC cI cII κ σ j := by
  by_cases h : j = 3
  · subst h; rfl
  · rw [if_neg h]; unfold xC; split <;> first | rfl | (exfalso; exact h rfl)
def mLen (k : Nat) : Nat := match k with
  | 1 => 72
  | 2 => 4096
  | 3 => 30
  | 4 => 200
  | _ => 12
def mC (cI _cII : ClassId) (κ : Nat → Nat) (σ : SX) (k : Nat) : va_E := match k with
  | 0 => .inr (4, [.int (σ.1 0), .int (σ.1 1), .ref (κ 1), .int (σ.1 2), .int (σ.1 3), .ref (κ 2), .int (σ.1 4), .int (σ.1 5), .ref (κ 3), .int (σ.1 6), .int (σ.1 7), .ref (κ 4)])
  | k => .inl (cI, mLen k, .inl (σ.2 k))
theorem mC_arr {cI cII : ClassId} {κ : Nat → Nat} {σ : SX} {a len : Nat} (ha : 1 ≤ a) (hl : mLen a = len) : mC cI cII κ σ a = .inl (cI, len, .inl (σ.2 a)) := by
  subst hl
  unfold mC
  split <;> first | rfl | (exfalso; omega)
theorem mC_sa {cI cII : ClassId} {κ : Nat → Nat} {σ : SX} {a i : Nat} {v : Int32} (ha : 1 ≤ a) (j : Nat) : mC cI cII κ (sa σ a i v) j = if j = a then .inl (cI, mLen a, .inl (upd (σ.2 a) i v)) else mC cI cII κ σ j := by
  by_cases h : j = a
  · subst h
    rw [if_pos rfl, mC_arr ha rfl]
    simp [sa]
  · rw [if_neg h]
    unfold mC
    split <;> first | rfl | simp [sa, h]
theorem mC_as {cI cII : ClassId} {κ : Nat → Nat} {σ σ' : SX} {a len : Nat} {i v : Int32} (hq : as_ σ a len i v = some σ') (ha : 1 ≤ a) (hl : mLen a = len) (j : Nat) : mC cI cII κ σ' j = if j = a then .inl (cI, len, .inl (upd (σ.2 a) i.toNatClampNeg v)) else mC cI cII κ σ j := by
  obtain ⟨-, rfl⟩ := as_w hq
  rw [mC_sa ha, hl]
theorem mC_p0 {cI cII : ClassId} {κ : Nat → Nat} {σ : SX} {v : Int32} (j : Nat) : mC cI cII κ (ss σ 0 v) j = if j = 0 then .inr (4, [.int v, .int (σ.1 1), .ref (κ 1), .int (σ.1 2), .int (σ.1 3), .ref (κ 2), .int (σ.1 4), .int (σ.1 5), .ref (κ 3), .int (σ.1 6), .int (σ.1 7), .ref (κ 4)]) else mC cI cII κ σ j := by
  by_cases h : j = 0
  · subst h; rfl
  · rw [if_neg h]; unfold mC; split <;> first | rfl | (exfalso; exact h rfl)
theorem mC_p1 {cI cII : ClassId} {κ : Nat → Nat} {σ : SX} {v : Int32} (j : Nat) : mC cI cII κ (ss σ 1 v) j = if j = 0 then .inr (4, [.int (σ.1 0), .int v, .ref (κ 1), .int (σ.1 2), .int (σ.1 3), .ref (κ 2), .int (σ.1 4), .int (σ.1 5), .ref (κ 3), .int (σ.1 6), .int (σ.1 7), .ref (κ 4)]) else mC cI cII κ σ j := by
  by_cases h : j = 0
  · subst h; rfl
  · rw [if_neg h]; unfold mC; split <;> first | rfl | (exfalso; exact h rfl)
theorem mC_p2 {cI cII : ClassId} {κ : Nat → Nat} {σ : SX} {v : Int32} (j : Nat) : mC cI cII κ (ss σ 2 v) j = if j = 0 then .inr (4, [.int (σ.1 0), .int (σ.1 1), .ref (κ 1), .int v, .int (σ.1 3), .ref (κ 2), .int (σ.1 4), .int (σ.1 5), .ref (κ 3), .int (σ.1 6), .int (σ.1 7), .ref (κ 4)]) else mC cI cII κ σ j := by
  by_cases h : j = 0
  · subst h; rfl
  · rw [if_neg h]; unfold mC; split <;> first | rfl | (exfalso; exact h rfl)
theorem mC_p3 {cI cII : ClassId} {κ : Nat → Nat} {σ : SX} {v : Int32} (j : Nat) : mC cI cII κ (ss σ 3 v) j = if j = 0 then .inr (4, [.int (σ.1 0), .int (σ.1 1), .ref (κ 1), .int (σ.1 2), .int v, .ref (κ 2), .int (σ.1 4), .int (σ.1 5), .ref (κ 3), .int (σ.1 6), .int (σ.1 7), .ref (κ 4)]) else mC cI cII κ σ j := by
  by_cases h : j = 0
  · subst h; rfl
  · rw [if_neg h]; unfold mC; split <;> first | rfl | (exfalso; exact h rfl)
theorem mC_p4 {cI cII : ClassId} {κ : Nat → Nat} {σ : SX} {v : Int32} (j : Nat) : mC cI cII κ (ss σ 4 v) j = if j = 0 then .inr (4, [.int (σ.1 0), .int (σ.1 1), .ref (κ 1), .int (σ.1 2), .int (σ.1 3), .ref (κ 2), .int v, .int (σ.1 5), .ref (κ 3), .int (σ.1 6), .int (σ.1 7), .ref (κ 4)]) else mC cI cII κ σ j := by
  by_cases h : j = 0
  · subst h; rfl
  · rw [if_neg h]; unfold mC; split <;> first | rfl | (exfalso; exact h rfl)
theorem mC_p5 {cI cII : ClassId} {κ : Nat → Nat} {σ : SX} {v : Int32} (j : Nat) : mC cI cII κ (ss σ 5 v) j = if j = 0 then .inr (4, [.int (σ.1 0), .int (σ.1 1), .ref (κ 1), .int (σ.1 2), .int (σ.1 3), .ref (κ 2), .int (σ.1 4), .int v, .ref (κ 3), .int (σ.1 6), .int (σ.1 7), .ref (κ 4)]) else mC cI cII κ σ j := by
  by_cases h : j = 0
  · subst h; rfl
  · rw [if_neg h]; unfold mC; split <;> first | rfl | (exfalso; exact h rfl)
theorem mC_p6 {cI cII : ClassId} {κ : Nat → Nat} {σ : SX} {v : Int32} (j : Nat) : mC cI cII κ (ss σ 6 v) j = if j = 0 then .inr (4, [.int (σ.1 0), .int (σ.1 1), .ref (κ 1), .int (σ.1 2), .int (σ.1 3), .ref (κ 2), .int (σ.1 4), .int (σ.1 5), .ref (κ 3), .int v, .int (σ.1 7), .ref (κ 4)]) else mC cI cII κ σ j := by
  by_cases h : j = 0
  · subst h; rfl
  · rw [if_neg h]; unfold mC; split <;> first | rfl | (exfalso; exact h rfl)
theorem mC_p7 {cI cII : ClassId} {κ : Nat → Nat} {σ : SX} {v : Int32} (j : Nat) : mC cI cII κ (ss σ 7 v) j = if j = 0 then .inr (4, [.int (σ.1 0), .int (σ.1 1), .ref (κ 1), .int (σ.1 2), .int (σ.1 3), .ref (κ 2), .int (σ.1 4), .int (σ.1 5), .ref (κ 3), .int (σ.1 6), .int v, .ref (κ 4)]) else mC cI cII κ σ j := by
  by_cases h : j = 0
  · subst h; rfl
  · rw [if_neg h]; unfold mC; split <;> first | rfl | (exfalso; exact h rfl)
/-! the contracts' worlds and ends -/
abbrev xP (D : va_G) (cI cII : ClassId) (κ : Nat → Nat) (σ : SX) : State → Prop := gP D cI cII 31 κ (xC cI cII κ σ)
abbrev mP (D : va_G) (cI cII : ClassId) (κ : Nat → Nat) (σ : SX) : State → Prop := gP D cI cII 5 κ (mC cI cII κ σ)
abbrev QI (D : va_G) (cI cII : ClassId) (n : Nat) (κ : Nat → Nat) (f : Nat → va_E) (r : Int32) : Array Value → State → Outcome → State → Prop := va_Qi (fun (r' : Int32) (_ : Unit) => r' = r) (fun _ => gP D cI cII n κ f) (gA n κ)
abbrev QL (D : va_G) (cI cII : ClassId) (n : Nat) (κ : Nat → Nat) (f : Nat → va_E) (r : Int64) : Array Value → State → Outcome → State → Prop := va_Ql (fun (r' : Int64) (_ : Unit) => r' = r) (fun _ => gP D cI cII n κ f) (gA n κ)
abbrev QD (D : va_G) (cI cII : ClassId) (n : Nat) (κ : Nat → Nat) (f : Nat → va_E) (r : UInt64) : Array Value → State → Outcome → State → Prop := va_Qd (fun (r' : UInt64) (_ : Unit) => r' = r) (fun _ => gP D cI cII n κ f) (gA n κ)
abbrev QV (D : va_G) (cI cII : ClassId) (n : Nat) (κ : Nat → Nat) (f : Nat → va_E) : Array Value → State → Outcome → State → Prop := va_Qv (fun (_ : Unit) => True) (fun _ => gP D cI cII n κ f) (gA n κ)
end
