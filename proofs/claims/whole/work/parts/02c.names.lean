theorem dX10_state_57 : decode cX10_state 57 = .ok (.getfield 239, 3) := by decide +kernel
theorem dX10_state_60 : decode cX10_state 60 = .ok (.invokestatic 98, 3) := by decide +kernel
theorem dX10_state_63 : decode cX10_state 63 = .ok (.ireturn, 1) := by decide +kernel
theorem dX10_state_64 : decode cX10_state 64 = .ok (.aload_n 3, 1) := by decide +kernel
theorem dX10_state_65 : decode cX10_state 65 = .ok (.getfield 242, 3) := by decide +kernel
theorem dX10_state_68 : decode cX10_state 68 = .ok (.ireturn, 1) := by decide +kernel
theorem dX10_state_69 : decode cX10_state 69 = .ok (.iconst 0, 1) := by decide +kernel
theorem dX10_state_70 : decode cX10_state 70 = .ok (.aload_n 3, 1) := by decide +kernel
theorem dX10_state_71 : decode cX10_state 71 = .ok (.getfield 115, 3) := by decide +kernel
theorem dX10_state_74 : decode cX10_state 74 = .ok (.aload_n 3, 1) := by decide +kernel
theorem dX10_state_75 : decode cX10_state 75 = .ok (.getfield 242, 3) := by decide +kernel
theorem dX10_state_78 : decode cX10_state 78 = .ok (.isub, 1) := by decide +kernel
theorem dX10_state_79 : decode cX10_state 79 = .ok (.invokestatic 245, 3) := by decide +kernel
theorem dX10_state_82 : decode cX10_state 82 = .ok (.ireturn, 1) := by decide +kernel
theorem dX10_state_83 : decode cX10_state 83 = .ok (.aload_n 3, 1) := by decide +kernel
theorem dX10_state_84 : decode cX10_state 84 = .ok (.getfield 115, 3) := by decide +kernel
theorem dX10_state_87 : decode cX10_state 87 = .ok (.ireturn, 1) := by decide +kernel
theorem dX10_state_88 : decode cX10_state 88 = .ok (.aload_n 3, 1) := by decide +kernel
theorem dX10_state_89 : decode cX10_state 89 = .ok (.getfield 120, 3) := by decide +kernel
theorem dX10_state_92 : decode cX10_state 92 = .ok (.ireturn, 1) := by decide +kernel
theorem dX10_state_93 : decode cX10_state 93 = .ok (.bipush (-2), 2) := by decide +kernel
theorem dX10_state_95 : decode cX10_state 95 = .ok (.ireturn, 1) := by decide +kernel
theorem dX10_tripped_0 : decode cX10_tripped 0 = .ok (.aload_n 0, 1) := by decide +kernel
theorem dX10_tripped_1 : decode cX10_tripped 1 = .ok (.getfield 10, 3) := by decide +kernel
theorem dX10_tripped_4 : decode cX10_tripped 4 = .ok (.getfield 251, 3) := by decide +kernel
theorem dX10_tripped_7 : decode cX10_tripped 7 = .ok (.ireturn, 1) := by decide +kernel
set_option maxRecDepth 20000 in
theorem ggX10_reset_X6_rearm : GoodIn wsX10_reset wsX6_rearm := goodIn_r _ [7, 8, 9, 10, 20, 21, 22, 23, 24, 25, 26, 27, 28, 29, 30, 31, 32, 33, 34, 35, 36, 37, 38, 39, 40, 41] (by decide +kernel) (by decide +kernel)
set_option maxRecDepth 20000 in
theorem gX10_reset_X6_rearm : GoodIn wsX10_reset (wsV RX10 254 RX6 yX6_rearm wsX6_rearm) := goodIn_app (goodIn_of _ (by decide +kernel)) ggX10_reset_X6_rearm
theorem dX10_reset_0 : decode cX10_reset 0 = .ok (.aload_n 0, 1) := by decide +kernel
theorem dX10_reset_1 : decode cX10_reset 1 = .ok (.getfield 10, 3) := by decide +kernel
theorem dX10_reset_4 : decode cX10_reset 4 = .ok (.getfield 251, 3) := by decide +kernel
theorem dX10_reset_7 : decode cX10_reset 7 = .ok (.istore_n 1, 1) := by decide +kernel
theorem dX10_reset_8 : decode cX10_reset 8 = .ok (.aload_n 0, 1) := by decide +kernel
theorem dX10_reset_9 : decode cX10_reset 9 = .ok (.getfield 10, 3) := by decide +kernel
theorem dX10_reset_12 : decode cX10_reset 12 = .ok (.invokevirtual 254, 3) := by decide +kernel
theorem dX10_reset_15 : decode cX10_reset 15 = .ok (.iload_n 1, 1) := by decide +kernel
theorem dX10_reset_16 : decode cX10_reset 16 = .ok (.ireturn, 1) := by decide +kernel
set_option maxRecDepth 20000 in
theorem ggX10_event_X10_outside : GoodIn wsX10_event wsX10_outside := goodIn_r _ [8] (by decide +kernel) (by decide +kernel)
set_option maxRecDepth 20000 in
theorem gX10_event_X10_outside : GoodIn wsX10_event (va_wsS RX10 57 yX10_outside wsX10_outside) := goodIn_app (goodIn_of _ (by decide +kernel)) ggX10_event_X10_outside
set_option maxRecDepth 20000 in
theorem ggX10_event_X1_keeps : GoodIn wsX10_event wsX1_keeps := goodIn_r _ [13, 14, 42, 43, 44] (by decide +kernel) (by decide +kernel)
set_option maxRecDepth 20000 in
theorem gX10_event_X1_keeps : GoodIn wsX10_event (wsV RX10 261 RX1 yX1_keeps wsX1_keeps) := goodIn_app (goodIn_of _ (by decide +kernel)) ggX10_event_X1_keeps
theorem dX10_event_0 : decode cX10_event 0 = .ok (.iload_n 2, 1) := by decide +kernel
theorem dX10_event_1 : decode cX10_event 1 = .ok (.iconst 0, 1) := by decide +kernel
theorem dX10_event_2 : decode cX10_event 2 = .ok (.iconst 1, 1) := by decide +kernel
theorem dX10_event_3 : decode cX10_event 3 = .ok (.invokestatic 57, 3) := by decide +kernel
theorem dX10_event_6 : decode cX10_event 6 = .ok (.ifCond .eq 6, 3) := by decide +kernel
theorem dX10_event_9 : decode cX10_event 9 = .ok (.bipush (-2), 2) := by decide +kernel
theorem dX10_event_11 : decode cX10_event 11 = .ok (.ireturn, 1) := by decide +kernel
theorem dX10_event_12 : decode cX10_event 12 = .ok (.aload_n 0, 1) := by decide +kernel
theorem dX10_event_13 : decode cX10_event 13 = .ok (.getfield 10, 3) := by decide +kernel
theorem dX10_event_16 : decode cX10_event 16 = .ok (.getfield 257, 3) := by decide +kernel
theorem dX10_event_19 : decode cX10_event 19 = .ok (.iload_n 1, 1) := by decide +kernel
theorem dX10_event_20 : decode cX10_event 20 = .ok (.invokevirtual 261, 3) := by decide +kernel
theorem dX10_event_23 : decode cX10_event 23 = .ok (.ifCond .ne 6, 3) := by decide +kernel
theorem dX10_event_26 : decode cX10_event 26 = .ok (.bipush (-6), 2) := by decide +kernel
theorem dX10_event_28 : decode cX10_event 28 = .ok (.ireturn, 1) := by decide +kernel
theorem dX10_event_29 : decode cX10_event 29 = .ok (.iload_n 1, 1) := by decide +kernel
theorem dX10_event_30 : decode cX10_event 30 = .ok (.bipush 60, 2) := by decide +kernel
theorem dX10_event_32 : decode cX10_event 32 = .ok (.irem, 1) := by decide +kernel
theorem dX10_event_33 : decode cX10_event 33 = .ok (.istore_n 3, 1) := by decide +kernel
theorem dX10_event_34 : decode cX10_event 34 = .ok (.iload_n 2, 1) := by decide +kernel
theorem dX10_event_35 : decode cX10_event 35 = .ok (.ifCond .ne 18, 3) := by decide +kernel
theorem dX10_event_38 : decode cX10_event 38 = .ok (.aload_n 0, 1) := by decide +kernel
theorem dX10_event_39 : decode cX10_event 39 = .ok (.getfield 10, 3) := by decide +kernel
theorem dX10_event_42 : decode cX10_event 42 = .ok (.getfield 257, 3) := by decide +kernel
theorem dX10_event_45 : decode cX10_event 45 = .ok (.getfield 266, 3) := by decide +kernel
theorem dX10_event_48 : decode cX10_event 48 = .ok (.iload_n 3, 1) := by decide +kernel
theorem dX10_event_49 : decode cX10_event 49 = .ok (.iaload, 1) := by decide +kernel
theorem dX10_event_50 : decode cX10_event 50 = .ok (.goto 15, 3) := by decide +kernel
theorem dX10_event_53 : decode cX10_event 53 = .ok (.aload_n 0, 1) := by decide +kernel
theorem dX10_event_54 : decode cX10_event 54 = .ok (.getfield 10, 3) := by decide +kernel
theorem dX10_event_57 : decode cX10_event 57 = .ok (.getfield 257, 3) := by decide +kernel
theorem dX10_event_60 : decode cX10_event 60 = .ok (.getfield 269, 3) := by decide +kernel
theorem dX10_event_63 : decode cX10_event 63 = .ok (.iload_n 3, 1) := by decide +kernel
theorem dX10_event_64 : decode cX10_event 64 = .ok (.iaload, 1) := by decide +kernel
theorem dX10_event_65 : decode cX10_event 65 = .ok (.ireturn, 1) := by decide +kernel
set_option maxRecDepth 20000 in
theorem ggX10_covers_X10_isNoFault : GoodIn wsX10_covers wsX10_isNoFault := goodIn_r _ [4, 5, 6, 3, 7] (by decide +kernel) (by decide +kernel)
set_option maxRecDepth 20000 in
theorem gX10_covers_X10_isNoFault : GoodIn wsX10_covers (va_wsS RX10 161 yX10_isNoFault wsX10_isNoFault) := goodIn_app (goodIn_of _ (by decide +kernel)) ggX10_covers_X10_isNoFault
set_option maxRecDepth 20000 in
theorem ggX10_covers_X10_zonesOfFault : GoodIn wsX10_covers wsX10_zonesOfFault := goodIn_r _ [11, 12, 13, 14, 15, 16, 17, 18, 19, 20, 21, 22, 23, 24, 25, 26, 27, 28, 29, 30, 31, 32, 33, 34, 35, 36, 37, 38, 39, 40, 41, 42, 43, 44, 45, 46, 47, 48, 49, 50, 51, 52, 53, 54, 55, 56, 57, 58, 59, 60, 61, 62, 63, 64, 65, 66, 67, 68, 69, 70, 71, 72, 73, 74, 75, 76, 77, 78, 79, 80, 81, 82, 83, 84, 85, 86, 87, 88, 89, 90, 91, 92, 93, 94, 95, 96, 97, 98, 99, 100, 101, 102, 103, 104, 105, 106, 107, 108, 109, 110, 111, 112, 113, 114, 115, 116, 117, 118, 119, 120, 121, 122, 123] (by decide +kernel) (by decide +kernel)
set_option maxRecDepth 20000 in
theorem gX10_covers_X10_zonesOfFault : GoodIn wsX10_covers (wsV RX10 272 RX10 yX10_zonesOfFault wsX10_zonesOfFault) := goodIn_app (goodIn_of _ (by decide +kernel)) ggX10_covers_X10_zonesOfFault
theorem dX10_covers_0 : decode cX10_covers 0 = .ok (.iload_n 1, 1) := by decide +kernel
theorem dX10_covers_1 : decode cX10_covers 1 = .ok (.iload_n 2, 1) := by decide +kernel
theorem dX10_covers_2 : decode cX10_covers 2 = .ok (.invokestatic 161, 3) := by decide +kernel
theorem dX10_covers_5 : decode cX10_covers 5 = .ok (.ifCond .eq 6, 3) := by decide +kernel
theorem dX10_covers_8 : decode cX10_covers 8 = .ok (.bipush (-2), 2) := by decide +kernel
theorem dX10_covers_10 : decode cX10_covers 10 = .ok (.ireturn, 1) := by decide +kernel
theorem dX10_covers_11 : decode cX10_covers 11 = .ok (.aload_n 0, 1) := by decide +kernel
theorem dX10_covers_12 : decode cX10_covers 12 = .ok (.iload_n 1, 1) := by decide +kernel
theorem dX10_covers_13 : decode cX10_covers 13 = .ok (.iload_n 2, 1) := by decide +kernel
theorem dX10_covers_14 : decode cX10_covers 14 = .ok (.invokevirtual 272, 3) := by decide +kernel
theorem dX10_covers_17 : decode cX10_covers 17 = .ok (.ireturn, 1) := by decide +kernel
set_option maxRecDepth 20000 in
theorem ggX10_reach_X10_outside : GoodIn wsX10_reach wsX10_outside := goodIn_r _ [4] (by decide +kernel) (by decide +kernel)
set_option maxRecDepth 20000 in
theorem gX10_reach_X10_outside : GoodIn wsX10_reach (va_wsS RX10 57 yX10_outside wsX10_outside) := goodIn_app (goodIn_of _ (by decide +kernel)) ggX10_reach_X10_outside
set_option maxRecDepth 20000 in
theorem ggX10_reach_X10_zonesOfFault : GoodIn wsX10_reach wsX10_zonesOfFault := goodIn_r _ [8, 9, 10, 11, 12, 13, 14, 15, 16, 17, 18, 19, 20, 21, 22, 23, 24, 25, 26, 27, 28, 29, 30, 31, 32, 33, 34, 35, 36, 37, 38, 39, 40, 41, 42, 43, 44, 45, 46, 47, 48, 49, 50, 51, 52, 53, 54, 55, 56, 57, 58, 59, 60, 61, 62, 63, 64, 65, 66, 67, 68, 69, 70, 71, 72, 73, 74, 75, 76, 77, 78, 79, 83, 84, 85, 86, 87, 88, 89, 90, 91, 92, 93, 94, 95, 96, 97, 98, 99, 100, 101, 102, 103, 104, 105, 106, 107, 108, 109, 110, 111, 112, 113, 114, 115, 116, 117, 118, 119, 120, 121, 122, 123] (by decide +kernel) (by decide +kernel)
set_option maxRecDepth 20000 in
theorem gX10_reach_X10_zonesOfFault : GoodIn wsX10_reach (wsV RX10 272 RX10 yX10_zonesOfFault wsX10_zonesOfFault) := goodIn_app (goodIn_of _ (by decide +kernel)) ggX10_reach_X10_zonesOfFault
set_option maxRecDepth 20000 in
theorem ggX10_reach_X10_isInSet : GoodIn wsX10_reach wsX10_isInSet := goodIn_r _ [82] (by decide +kernel) (by decide +kernel)
set_option maxRecDepth 20000 in
theorem gX10_reach_X10_isInSet : GoodIn wsX10_reach (va_wsS RX10 275 yX10_isInSet wsX10_isInSet) := goodIn_app (goodIn_of _ (by decide +kernel)) ggX10_reach_X10_isInSet
theorem dX10_reach_0 : decode cX10_reach 0 = .ok (.iload_n 1, 1) := by decide +kernel
theorem dX10_reach_1 : decode cX10_reach 1 = .ok (.iconst 0, 1) := by decide +kernel
theorem dX10_reach_2 : decode cX10_reach 2 = .ok (.iconst 2, 1) := by decide +kernel
theorem dX10_reach_3 : decode cX10_reach 3 = .ok (.invokestatic 57, 3) := by decide +kernel
theorem dX10_reach_6 : decode cX10_reach 6 = .ok (.ifCond .eq 5, 3) := by decide +kernel
theorem dX10_reach_9 : decode cX10_reach 9 = .ok (.iconst (-1), 1) := by decide +kernel
theorem dX10_reach_10 : decode cX10_reach 10 = .ok (.ireturn, 1) := by decide +kernel
theorem dX10_reach_11 : decode cX10_reach 11 = .ok (.iload_n 2, 1) := by decide +kernel
theorem dX10_reach_12 : decode cX10_reach 12 = .ok (.iconst 0, 1) := by decide +kernel
theorem dX10_reach_13 : decode cX10_reach 13 = .ok (.sipush 20000, 3) := by decide +kernel
theorem dX10_reach_16 : decode cX10_reach 16 = .ok (.invokestatic 57, 3) := by decide +kernel
theorem dX10_reach_19 : decode cX10_reach 19 = .ok (.ifCond .eq 6, 3) := by decide +kernel
theorem dX10_reach_22 : decode cX10_reach 22 = .ok (.bipush (-2), 2) := by decide +kernel
theorem dX10_reach_24 : decode cX10_reach 24 = .ok (.ireturn, 1) := by decide +kernel
theorem dX10_reach_25 : decode cX10_reach 25 = .ok (.bipush (-6), 2) := by decide +kernel
theorem dX10_reach_27 : decode cX10_reach 27 = .ok (.istore_n 3, 1) := by decide +kernel
theorem dX10_reach_28 : decode cX10_reach 28 = .ok (.iconst 0, 1) := by decide +kernel
theorem dX10_reach_29 : decode cX10_reach 29 = .ok (.istore 4, 2) := by decide +kernel
theorem dX10_reach_31 : decode cX10_reach 31 = .ok (.iload 4, 2) := by decide +kernel
theorem dX10_reach_33 : decode cX10_reach 33 = .ok (.sipush 1000, 3) := by decide +kernel
theorem dX10_reach_36 : decode cX10_reach 36 = .ok (.if_icmp .gt 39, 3) := by decide +kernel
theorem dX10_reach_39 : decode cX10_reach 39 = .ok (.aload_n 0, 1) := by decide +kernel
theorem dX10_reach_40 : decode cX10_reach 40 = .ok (.iload 4, 2) := by decide +kernel
theorem dX10_reach_42 : decode cX10_reach 42 = .ok (.iload_n 2, 1) := by decide +kernel
theorem dX10_reach_43 : decode cX10_reach 43 = .ok (.invokevirtual 272, 3) := by decide +kernel
theorem dX10_reach_46 : decode cX10_reach 46 = .ok (.istore 5, 2) := by decide +kernel
theorem dX10_reach_48 : decode cX10_reach 48 = .ok (.iload 5, 2) := by decide +kernel
theorem dX10_reach_50 : decode cX10_reach 50 = .ok (.bipush (-5), 2) := by decide +kernel
theorem dX10_reach_52 : decode cX10_reach 52 = .ok (.if_icmp .eq 12, 3) := by decide +kernel
theorem dX10_reach_55 : decode cX10_reach 55 = .ok (.iload_n 1, 1) := by decide +kernel
theorem dX10_reach_56 : decode cX10_reach 56 = .ok (.iload 5, 2) := by decide +kernel
theorem dX10_reach_58 : decode cX10_reach 58 = .ok (.invokestatic 275, 3) := by decide +kernel
theorem dX10_reach_61 : decode cX10_reach 61 = .ok (.ifCond .ne 5, 3) := by decide +kernel
theorem dX10_reach_64 : decode cX10_reach 64 = .ok (.iload_n 3, 1) := by decide +kernel
theorem dX10_reach_65 : decode cX10_reach 65 = .ok (.ireturn, 1) := by decide +kernel
theorem dX10_reach_66 : decode cX10_reach 66 = .ok (.iload 4, 2) := by decide +kernel
theorem dX10_reach_68 : decode cX10_reach 68 = .ok (.istore_n 3, 1) := by decide +kernel
theorem dX10_reach_69 : decode cX10_reach 69 = .ok (.iinc 4 1, 3) := by decide +kernel
theorem dX10_reach_72 : decode cX10_reach 72 = .ok (.goto (-41), 3) := by decide +kernel
theorem dX10_reach_75 : decode cX10_reach 75 = .ok (.iload_n 3, 1) := by decide +kernel
theorem dX10_reach_76 : decode cX10_reach 76 = .ok (.ireturn, 1) := by decide +kernel
set_option maxRecDepth 20000 in
theorem ggX10_test_X10_isNoFault : GoodIn wsX10_test wsX10_isNoFault := goodIn_r _ [11, 12, 13, 10, 14] (by decide +kernel) (by decide +kernel)
set_option maxRecDepth 20000 in
theorem gX10_test_X10_isNoFault : GoodIn wsX10_test (va_wsS RX10 161 yX10_isNoFault wsX10_isNoFault) := goodIn_app (goodIn_of _ (by decide +kernel)) ggX10_test_X10_isNoFault
set_option maxRecDepth 20000 in
theorem ggX10_test_X10_outside : GoodIn wsX10_test wsX10_outside := goodIn_r _ [14] (by decide +kernel) (by decide +kernel)
set_option maxRecDepth 20000 in
theorem gX10_test_X10_outside : GoodIn wsX10_test (va_wsS RX10 57 yX10_outside wsX10_outside) := goodIn_app (goodIn_of _ (by decide +kernel)) ggX10_test_X10_outside
set_option maxRecDepth 20000 in
theorem ggX10_test_X2_findFaulted : GoodIn wsX10_test wsX2_findFaulted := goodIn_r _ [19, 20, 21, 22, 23, 24, 18, 25, 26, 27, 28, 29, 30, 31, 32, 33, 34, 35, 36, 37, 38, 39, 40, 41, 42, 43, 44, 45, 46, 47, 48, 310, 311, 312, 313, 314, 315] (by decide +kernel) (by decide +kernel)
set_option maxRecDepth 20000 in
theorem gX10_test_X2_findFaulted : GoodIn wsX10_test (wsV RX10 165 RX2 yX2_findFaulted wsX2_findFaulted) := goodIn_app (goodIn_of _ (by decide +kernel)) ggX10_test_X2_findFaulted
set_option maxRecDepth 20000 in
theorem ggX10_test_X2_findUnfaulted : GoodIn wsX10_test wsX2_findUnfaulted := goodIn_r _ [52, 20, 21, 22, 23, 24, 18, 25, 26, 27, 28, 29, 30, 31, 32, 33, 34, 35, 36, 37, 38, 39, 40, 41, 42, 43, 44, 45, 46, 47, 48, 310, 311, 312, 313, 314, 315] (by decide +kernel) (by decide +kernel)
set_option maxRecDepth 20000 in
theorem gX10_test_X2_findUnfaulted : GoodIn wsX10_test (wsV RX10 173 RX2 yX2_findUnfaulted wsX2_findUnfaulted) := goodIn_app (goodIn_of _ (by decide +kernel)) ggX10_test_X2_findUnfaulted
set_option maxRecDepth 20000 in
theorem ggX10_test_X6_becomeLike : GoodIn wsX10_test wsX6_becomeLike := goodIn_r _ [57, 58, 59, 60, 61, 62, 63, 64, 65, 66, 67, 68, 69, 70, 71, 72, 73, 74, 75, 76, 77, 78, 79, 80, 81, 82, 83, 84, 85, 86, 87, 88, 89, 90, 91, 92, 93, 94, 95, 96, 97, 98, 99, 100, 101, 18, 102, 20, 103, 21, 104, 105, 106, 107, 108, 109, 110, 111, 112, 113, 114, 115, 116, 43, 117, 45, 46, 47, 48, 118, 41, 42, 44, 119, 120, 121, 122, 123, 124, 125, 126, 127, 128, 129, 130, 131, 132, 133, 134, 135, 136, 137, 138, 139, 140, 141, 142, 143, 144, 145, 146, 292, 293, 294, 295, 296, 297, 298, 299, 300, 301, 302, 303, 304, 305, 306, 307, 308, 309, 316, 317, 318, 319, 320, 321, 322, 323, 310, 311, 324, 325, 326, 327, 328, 312, 313, 314, 315, 329, 330, 331, 332, 333, 334, 335, 336, 337, 338] (by decide +kernel) (by decide +kernel)
set_option maxRecDepth 20000 in
theorem gX10_test_X6_becomeLike : GoodIn wsX10_test (wsV RX10 278 RX6 yX6_becomeLike wsX6_becomeLike) := goodIn_app (goodIn_of _ (by decide +kernel)) ggX10_test_X6_becomeLike
set_option maxRecDepth 20000 in
theorem ggX10_test_X6_rearm : GoodIn wsX10_test wsX6_rearm := goodIn_r _ [150, 78, 59, 151, 292, 293, 294, 295, 296, 297, 298, 299, 300, 301, 302, 303, 304, 305, 306, 307, 308, 309, 320, 321, 322, 323] (by decide +kernel) (by decide +kernel)
set_option maxRecDepth 20000 in
theorem gX10_test_X6_rearm : GoodIn wsX10_test (wsV RX10 254 RX6 yX6_rearm wsX6_rearm) := goodIn_app (goodIn_of _ (by decide +kernel)) ggX10_test_X6_rearm
set_option maxRecDepth 20000 in
theorem ggX10_test_X7_jumpTo : GoodIn wsX10_test wsX7_jumpTo := goodIn_r _ [155, 109, 114, 115, 116, 43, 117, 45, 46, 47, 48, 118, 41, 42, 44, 156, 157, 158, 107, 159, 113, 324, 325, 326, 327, 328, 312, 313, 314, 315] (by decide +kernel) (by decide +kernel)
set_option maxRecDepth 20000 in
theorem gX10_test_X7_jumpTo : GoodIn wsX10_test (wsV RX10 169 RX7 yX7_jumpTo wsX7_jumpTo) := goodIn_app (goodIn_of _ (by decide +kernel)) ggX10_test_X7_jumpTo
set_option maxRecDepth 20000 in
theorem ggX10_test_X6_samplesUntilTrip : GoodIn wsX10_test wsX6_samplesUntilTrip := goodIn_r _ [163, 78, 164, 165, 166, 56, 167, 66, 168, 70, 69, 60, 77, 79, 169, 170, 171, 107, 172, 113, 109, 110, 173, 111, 174, 175, 176, 177, 178, 179, 180, 112, 181, 41, 42, 43, 44, 45, 46, 47, 48, 182, 183, 184, 185, 67, 186, 187, 68, 188, 189, 190, 191, 192, 122, 193, 124, 126, 127, 194, 195, 196, 197, 198, 199, 200, 201, 202, 203, 204, 205, 206, 207, 208, 209, 210, 211, 72, 73, 74, 212, 213, 214, 132, 215, 216, 217, 218, 219, 137, 220, 135, 136, 134, 221, 222, 223, 224, 225, 226, 35, 227, 228, 229, 230, 231, 58, 75, 76, 71, 232, 233, 234, 235, 236, 237, 238, 83, 239, 89, 88, 85, 87, 240, 241, 242, 243, 244, 245, 246, 247, 248, 249, 250, 141, 251, 146, 143, 145, 252, 253, 254, 255, 256, 59, 257, 258, 259, 260, 261, 65, 262, 263, 264, 265, 266, 93, 267, 96, 268, 269, 270, 271, 272, 10, 273, 274, 275, 276, 277, 151, 278, 279, 280, 281, 282, 292, 293, 294, 295, 296, 297, 298, 299, 300, 301, 302, 303, 304, 305, 306, 307, 308, 309, 324, 325, 326, 327, 328, 312, 313, 314, 315, 329, 330, 331, 332, 333, 334, 335, 316, 317, 318, 319, 336, 337, 338, 320, 321, 322, 323, 310, 311] (by decide +kernel) (by decide +kernel)
set_option maxRecDepth 20000 in
theorem gX10_test_X6_samplesUntilTrip : GoodIn wsX10_test (wsV RX10 282 RX6 yX6_samplesUntilTrip wsX6_samplesUntilTrip) := goodIn_app (goodIn_of _ (by decide +kernel)) ggX10_test_X6_samplesUntilTrip
theorem dX10_test_0 : decode cX10_test 0 = .ok (.iload_n 1, 1) := by decide +kernel
theorem dX10_test_1 : decode cX10_test 1 = .ok (.iload_n 2, 1) := by decide +kernel
theorem dX10_test_2 : decode cX10_test 2 = .ok (.invokestatic 161, 3) := by decide +kernel
theorem dX10_test_5 : decode cX10_test 5 = .ok (.ifCond .ne 24, 3) := by decide +kernel
theorem dX10_test_8 : decode cX10_test 8 = .ok (.iload_n 3, 1) := by decide +kernel
theorem dX10_test_9 : decode cX10_test 9 = .ok (.iconst 1, 1) := by decide +kernel
theorem dX10_test_10 : decode cX10_test 10 = .ok (.sipush 2400, 3) := by decide +kernel
theorem dX10_test_13 : decode cX10_test 13 = .ok (.invokestatic 57, 3) := by decide +kernel
theorem dX10_test_16 : decode cX10_test 16 = .ok (.ifCond .ne 13, 3) := by decide +kernel
theorem dX10_test_19 : decode cX10_test 19 = .ok (.iload 4, 2) := by decide +kernel
theorem dX10_test_21 : decode cX10_test 21 = .ok (.iconst 0, 1) := by decide +kernel
theorem dX10_test_22 : decode cX10_test 22 = .ok (.iconst 1, 1) := by decide +kernel
theorem dX10_test_23 : decode cX10_test 23 = .ok (.invokestatic 57, 3) := by decide +kernel
theorem dX10_test_26 : decode cX10_test 26 = .ok (.ifCond .eq 6, 3) := by decide +kernel
theorem dX10_test_29 : decode cX10_test 29 = .ok (.bipush (-2), 2) := by decide +kernel
theorem dX10_test_31 : decode cX10_test 31 = .ok (.ireturn, 1) := by decide +kernel
theorem dX10_test_32 : decode cX10_test 32 = .ok (.aload_n 0, 1) := by decide +kernel
theorem dX10_test_33 : decode cX10_test 33 = .ok (.getfield 10, 3) := by decide +kernel
theorem dX10_test_36 : decode cX10_test 36 = .ok (.getfield 149, 3) := by decide +kernel
theorem dX10_test_39 : decode cX10_test 39 = .ok (.iload_n 1, 1) := by decide +kernel
theorem dX10_test_40 : decode cX10_test 40 = .ok (.iload_n 2, 1) := by decide +kernel
theorem dX10_test_41 : decode cX10_test 41 = .ok (.aload_n 0, 1) := by decide +kernel
theorem dX10_test_42 : decode cX10_test 42 = .ok (.getfield 26, 3) := by decide +kernel
theorem dX10_test_45 : decode cX10_test 45 = .ok (.invokevirtual 165, 3) := by decide +kernel
theorem dX10_test_48 : decode cX10_test 48 = .ok (.ifCond .eq 20, 3) := by decide +kernel
theorem dX10_test_51 : decode cX10_test 51 = .ok (.aload_n 0, 1) := by decide +kernel
theorem dX10_test_52 : decode cX10_test 52 = .ok (.getfield 10, 3) := by decide +kernel
theorem dX10_test_55 : decode cX10_test 55 = .ok (.getfield 149, 3) := by decide +kernel
theorem dX10_test_58 : decode cX10_test 58 = .ok (.aload_n 0, 1) := by decide +kernel
theorem dX10_test_59 : decode cX10_test 59 = .ok (.getfield 30, 3) := by decide +kernel
theorem dX10_test_62 : decode cX10_test 62 = .ok (.invokevirtual 173, 3) := by decide +kernel
theorem dX10_test_65 : decode cX10_test 65 = .ok (.ifCond .ne 6, 3) := by decide +kernel
theorem dX10_test_68 : decode cX10_test 68 = .ok (.bipush (-5), 2) := by decide +kernel
theorem dX10_test_70 : decode cX10_test 70 = .ok (.ireturn, 1) := by decide +kernel
theorem dX10_test_71 : decode cX10_test 71 = .ok (.aload_n 0, 1) := by decide +kernel
theorem dX10_test_72 : decode cX10_test 72 = .ok (.getfield 16, 3) := by decide +kernel
theorem dX10_test_75 : decode cX10_test 75 = .ok (.aload_n 0, 1) := by decide +kernel
theorem dX10_test_76 : decode cX10_test 76 = .ok (.getfield 10, 3) := by decide +kernel
theorem dX10_test_79 : decode cX10_test 79 = .ok (.invokevirtual 278, 3) := by decide +kernel
theorem dX10_test_82 : decode cX10_test 82 = .ok (.aload_n 0, 1) := by decide +kernel
theorem dX10_test_83 : decode cX10_test 83 = .ok (.getfield 16, 3) := by decide +kernel
theorem dX10_test_86 : decode cX10_test 86 = .ok (.invokevirtual 254, 3) := by decide +kernel
theorem dX10_test_89 : decode cX10_test 89 = .ok (.aload_n 0, 1) := by decide +kernel
theorem dX10_test_90 : decode cX10_test 90 = .ok (.getfield 16, 3) := by decide +kernel
theorem dX10_test_93 : decode cX10_test 93 = .ok (.getfield 123, 3) := by decide +kernel
theorem dX10_test_96 : decode cX10_test 96 = .ok (.aload_n 0, 1) := by decide +kernel
theorem dX10_test_97 : decode cX10_test 97 = .ok (.getfield 30, 3) := by decide +kernel
theorem dX10_test_100 : decode cX10_test 100 = .ok (.invokevirtual 169, 3) := by decide +kernel
theorem dX10_test_103 : decode cX10_test 103 = .ok (.aload_n 0, 1) := by decide +kernel
theorem dX10_test_104 : decode cX10_test 104 = .ok (.getfield 16, 3) := by decide +kernel
theorem dX10_test_107 : decode cX10_test 107 = .ok (.bipush 48, 2) := by decide +kernel
theorem dX10_test_109 : decode cX10_test 109 = .ok (.invokevirtual 282, 3) := by decide +kernel
theorem dX10_test_112 : decode cX10_test 112 = .ok (.pop, 1) := by decide +kernel
theorem dX10_test_113 : decode cX10_test 113 = .ok (.aload_n 0, 1) := by decide +kernel
theorem dX10_test_114 : decode cX10_test 114 = .ok (.getfield 16, 3) := by decide +kernel
theorem dX10_test_117 : decode cX10_test 117 = .ok (.getfield 123, 3) := by decide +kernel
theorem dX10_test_120 : decode cX10_test 120 = .ok (.aload_n 0, 1) := by decide +kernel
theorem dX10_test_121 : decode cX10_test 121 = .ok (.getfield 26, 3) := by decide +kernel
theorem dX10_test_124 : decode cX10_test 124 = .ok (.invokevirtual 169, 3) := by decide +kernel
theorem dX10_test_127 : decode cX10_test 127 = .ok (.aload_n 0, 1) := by decide +kernel
theorem dX10_test_128 : decode cX10_test 128 = .ok (.getfield 16, 3) := by decide +kernel
theorem dX10_test_131 : decode cX10_test 131 = .ok (.iload_n 3, 1) := by decide +kernel
theorem dX10_test_132 : decode cX10_test 132 = .ok (.invokevirtual 282, 3) := by decide +kernel
theorem dX10_test_135 : decode cX10_test 135 = .ok (.istore 5, 2) := by decide +kernel
theorem dX10_test_137 : decode cX10_test 137 = .ok (.iload 4, 2) := by decide +kernel
theorem dX10_test_139 : decode cX10_test 139 = .ok (.ifCond .ne 8, 3) := by decide +kernel
theorem dX10_test_142 : decode cX10_test 142 = .ok (.iload 5, 2) := by decide +kernel
theorem dX10_test_144 : decode cX10_test 144 = .ok (.goto 10, 3) := by decide +kernel
theorem dX10_test_147 : decode cX10_test 147 = .ok (.aload_n 0, 1) := by decide +kernel
theorem dX10_test_148 : decode cX10_test 148 = .ok (.getfield 16, 3) := by decide +kernel
theorem dX10_test_151 : decode cX10_test 151 = .ok (.getfield 251, 3) := by decide +kernel
theorem dX10_test_154 : decode cX10_test 154 = .ok (.ireturn, 1) := by decide +kernel
set_option maxRecDepth 20000 in
theorem ggX10_forecast_X10_outside : GoodIn wsX10_forecast wsX10_outside := goodIn_r _ [6] (by decide +kernel) (by decide +kernel)
set_option maxRecDepth 20000 in
theorem gX10_forecast_X10_outside : GoodIn wsX10_forecast (va_wsS RX10 57 yX10_outside wsX10_outside) := goodIn_app (goodIn_of _ (by decide +kernel)) ggX10_forecast_X10_outside
set_option maxRecDepth 20000 in
theorem ggX10_forecast_X6_becomeLike : GoodIn wsX10_forecast wsX6_becomeLike := goodIn_r _ [11, 12, 13, 14, 15, 16, 17, 18, 19, 20, 21, 22, 23, 24, 25, 26, 27, 28, 29, 30, 31, 32, 33, 34, 35, 36, 37, 38, 39, 40, 41, 42, 43, 44, 45, 46, 47, 48, 49, 50, 51, 52, 53, 54, 55, 56, 57, 58, 59, 60, 61, 62, 63, 64, 65, 66, 67, 68, 69, 70, 71, 72, 73, 74, 75, 76, 77, 78, 79, 80, 81, 82, 83, 84, 85, 86, 87, 88, 89, 90, 91, 92, 93, 94, 95, 96, 97, 98, 99, 100, 101, 102, 103, 104, 105, 106, 107, 108, 109, 110, 111, 246, 247, 248, 249, 250, 251, 252, 253, 254, 255, 256, 257, 258, 259, 260, 261, 262, 263, 264, 265, 266, 267, 268, 269, 270, 271, 272, 273, 274, 275, 276, 277, 278, 279, 280, 281, 282, 283, 284, 285, 286, 287, 288, 289, 290, 291, 292] (by decide +kernel) (by decide +kernel)
set_option maxRecDepth 20000 in
theorem gX10_forecast_X6_becomeLike : GoodIn wsX10_forecast (wsV RX10 278 RX6 yX6_becomeLike wsX6_becomeLike) := goodIn_app (goodIn_of _ (by decide +kernel)) ggX10_forecast_X6_becomeLike
set_option maxRecDepth 20000 in
theorem ggX10_forecast_X6_samplesUntilTrip : GoodIn wsX10_forecast wsX6_samplesUntilTrip := goodIn_r _ [115, 32, 116, 117, 118, 10, 119, 20, 120, 24, 23, 14, 31, 33, 121, 122, 123, 64, 124, 70, 66, 67, 125, 68, 126, 127, 128, 129, 130, 131, 132, 69, 133, 81, 82, 74, 83, 76, 77, 78, 79, 134, 135, 136, 137, 21, 138, 139, 22, 140, 141, 142, 143, 144, 87, 145, 89, 91, 92, 146, 147, 148, 149, 150, 151, 152, 153, 154, 155, 156, 157, 158, 159, 160, 161, 162, 163, 26, 27, 28, 164, 165, 166, 97, 167, 168, 169, 170, 171, 102, 172, 100, 101, 99, 173, 174, 175, 176, 177, 178, 179, 180, 181, 182, 183, 184, 12, 29, 30, 25, 185, 186, 187, 188, 189, 190, 191, 37, 192, 43, 42, 39, 41, 193, 194, 195, 196, 197, 198, 199, 200, 201, 202, 203, 106, 204, 111, 108, 110, 205, 206, 207, 208, 209, 13, 210, 211, 212, 213, 214, 19, 215, 216, 217, 218, 219, 47, 220, 50, 221, 222, 223, 224, 225, 5, 226, 227, 228, 229, 230, 231, 232, 233, 234, 235, 236, 246, 247, 248, 249, 250, 251, 252, 253, 254, 255, 256, 257, 258, 259, 260, 261, 262, 263, 274, 275, 276, 277, 278, 279, 280, 281, 282, 283, 284, 285, 286, 287, 288, 289, 264, 265, 266, 267, 290, 291, 292, 268, 269, 270, 271, 272, 273] (by decide +kernel) (by decide +kernel)
set_option maxRecDepth 20000 in
theorem gX10_forecast_X6_samplesUntilTrip : GoodIn wsX10_forecast (wsV RX10 282 RX6 yX6_samplesUntilTrip wsX6_samplesUntilTrip) := goodIn_app (goodIn_of _ (by decide +kernel)) ggX10_forecast_X6_samplesUntilTrip
theorem dX10_forecast_0 : decode cX10_forecast 0 = .ok (.iload_n 1, 1) := by decide +kernel
theorem dX10_forecast_1 : decode cX10_forecast 1 = .ok (.iconst 1, 1) := by decide +kernel
theorem dX10_forecast_2 : decode cX10_forecast 2 = .ok (.sipush 5000, 3) := by decide +kernel
theorem dX10_forecast_5 : decode cX10_forecast 5 = .ok (.invokestatic 57, 3) := by decide +kernel
theorem dX10_forecast_8 : decode cX10_forecast 8 = .ok (.ifCond .eq 6, 3) := by decide +kernel
theorem dX10_forecast_11 : decode cX10_forecast 11 = .ok (.bipush (-2), 2) := by decide +kernel
theorem dX10_forecast_13 : decode cX10_forecast 13 = .ok (.ireturn, 1) := by decide +kernel
theorem dX10_forecast_14 : decode cX10_forecast 14 = .ok (.aload_n 0, 1) := by decide +kernel
theorem dX10_forecast_15 : decode cX10_forecast 15 = .ok (.getfield 16, 3) := by decide +kernel
theorem dX10_forecast_18 : decode cX10_forecast 18 = .ok (.aload_n 0, 1) := by decide +kernel
theorem dX10_forecast_19 : decode cX10_forecast 19 = .ok (.getfield 10, 3) := by decide +kernel
theorem dX10_forecast_22 : decode cX10_forecast 22 = .ok (.invokevirtual 278, 3) := by decide +kernel
theorem dX10_forecast_25 : decode cX10_forecast 25 = .ok (.aload_n 0, 1) := by decide +kernel
theorem dX10_forecast_26 : decode cX10_forecast 26 = .ok (.getfield 16, 3) := by decide +kernel
theorem dX10_forecast_29 : decode cX10_forecast 29 = .ok (.iload_n 1, 1) := by decide +kernel
theorem dX10_forecast_30 : decode cX10_forecast 30 = .ok (.invokevirtual 282, 3) := by decide +kernel
theorem dX10_forecast_33 : decode cX10_forecast 33 = .ok (.ireturn, 1) := by decide +kernel
set_option maxRecDepth 20000 in
theorem ggX10_say_X10_outside : GoodIn wsX10_say wsX10_outside := goodIn_r _ [5] (by decide +kernel) (by decide +kernel)
set_option maxRecDepth 20000 in
theorem gX10_say_X10_outside : GoodIn wsX10_say (va_wsS RX10 57 yX10_outside wsX10_outside) := goodIn_app (goodIn_of _ (by decide +kernel)) ggX10_say_X10_outside
set_option maxRecDepth 20000 in
theorem ggX10_say_J4_length_8abf5 : GoodIn wsX10_say wsJ4_length_8abf5 := goodIn_r _ [10, 11, 12, 13, 14, 15, 16, 17, 140, 141, 142, 143] (by decide +kernel) (by decide +kernel)
set_option maxRecDepth 20000 in
theorem gX10_say_J4_length_8abf5 : GoodIn wsX10_say (wsV RX10 286 RJ4 yJ4_length_8abf5 wsJ4_length_8abf5) := goodIn_app (goodIn_of _ (by decide +kernel)) ggX10_say_J4_length_8abf5
set_option maxRecDepth 20000 in
theorem ggX10_say_J4_append_cf468 : GoodIn wsX10_say wsJ4_append_cf468 := goodIn_r _ [21, 22, 23, 13, 24, 15, 25, 17, 26, 27, 28, 29, 30, 31, 32, 33, 34, 35, 36, 37, 38, 39, 40, 41, 42, 43, 44, 45, 46, 47, 48, 49, 50, 51, 52, 53, 54, 55, 56, 57, 58, 59, 60, 61, 62, 63, 64, 65, 66, 67, 68, 69, 70, 71, 72, 73, 74, 75, 76, 77, 78, 79, 80, 81, 82, 83, 84, 85, 86, 87, 88, 89, 90, 91, 92, 93, 94, 95, 96, 97, 98, 99, 100, 101, 102, 103, 104, 105, 106, 107, 108, 109, 110, 111, 112, 113, 114, 115, 116, 117, 118, 119, 120, 121, 122, 123, 124, 125, 126, 127, 128, 129, 130, 140, 141, 142, 143] (by decide +kernel) (by decide +kernel)
set_option maxRecDepth 20000 in
theorem gX10_say_J4_append_cf468 : GoodIn wsX10_say (wsV RX10 290 RJ4 yJ4_append_cf468 wsJ4_append_cf468) := goodIn_app (goodIn_of _ (by decide +kernel)) ggX10_say_J4_append_cf468
theorem dX10_say_0 : decode cX10_say 0 = .ok (.iload_n 1, 1) := by decide +kernel
theorem dX10_say_1 : decode cX10_say 1 = .ok (.bipush 33, 2) := by decide +kernel
theorem dX10_say_3 : decode cX10_say 3 = .ok (.bipush 126, 2) := by decide +kernel
theorem dX10_say_5 : decode cX10_say 5 = .ok (.invokestatic 57, 3) := by decide +kernel
theorem dX10_say_8 : decode cX10_say 8 = .ok (.ifCond .eq 6, 3) := by decide +kernel
theorem dX10_say_11 : decode cX10_say 11 = .ok (.bipush (-2), 2) := by decide +kernel
theorem dX10_say_13 : decode cX10_say 13 = .ok (.ireturn, 1) := by decide +kernel
theorem dX10_say_14 : decode cX10_say 14 = .ok (.aload_n 0, 1) := by decide +kernel
theorem dX10_say_15 : decode cX10_say 15 = .ok (.getfield 43, 3) := by decide +kernel
theorem dX10_say_18 : decode cX10_say 18 = .ok (.invokevirtual 286, 3) := by decide +kernel
theorem dX10_say_21 : decode cX10_say 21 = .ok (.bipush 80, 2) := by decide +kernel
theorem dX10_say_23 : decode cX10_say 23 = .ok (.if_icmp .lt 6, 3) := by decide +kernel
theorem dX10_say_26 : decode cX10_say 26 = .ok (.bipush (-4), 2) := by decide +kernel
theorem dX10_say_28 : decode cX10_say 28 = .ok (.ireturn, 1) := by decide +kernel
theorem dX10_say_29 : decode cX10_say 29 = .ok (.aload_n 0, 1) := by decide +kernel
theorem dX10_say_30 : decode cX10_say 30 = .ok (.getfield 43, 3) := by decide +kernel
theorem dX10_say_33 : decode cX10_say 33 = .ok (.iload_n 1, 1) := by decide +kernel
theorem dX10_say_34 : decode cX10_say 34 = .ok (.i2c, 1) := by decide +kernel
theorem dX10_say_35 : decode cX10_say 35 = .ok (.invokevirtual 290, 3) := by decide +kernel
theorem dX10_say_38 : decode cX10_say 38 = .ok (.pop, 1) := by decide +kernel
theorem dX10_say_39 : decode cX10_say 39 = .ok (.aload_n 0, 1) := by decide +kernel
theorem dX10_say_40 : decode cX10_say 40 = .ok (.getfield 43, 3) := by decide +kernel
theorem dX10_say_43 : decode cX10_say 43 = .ok (.invokevirtual 286, 3) := by decide +kernel
theorem dX10_say_46 : decode cX10_say 46 = .ok (.ireturn, 1) := by decide +kernel
set_option maxRecDepth 20000 in
theorem ggX10_wipe_J4_length_8abf5 : GoodIn wsX10_wipe wsJ4_length_8abf5 := goodIn_r _ [6, 7, 8, 9, 10, 11, 12, 13, 96, 97, 98, 99] (by decide +kernel) (by decide +kernel)
set_option maxRecDepth 20000 in
theorem gX10_wipe_J4_length_8abf5 : GoodIn wsX10_wipe (wsV RX10 286 RJ4 yJ4_length_8abf5 wsJ4_length_8abf5) := goodIn_app (goodIn_of _ (by decide +kernel)) ggX10_wipe_J4_length_8abf5
set_option maxRecDepth 20000 in
theorem ggX10_wipe_J4_setLength_d00df : GoodIn wsX10_wipe wsJ4_setLength_d00df := goodIn_r _ [17, 18, 19, 9, 20, 11, 21, 13, 22, 23, 24, 25, 26, 27, 28, 29, 30, 31, 32, 33, 34, 35, 36, 37, 38, 39, 40, 41, 42, 43, 44, 45, 46, 47, 48, 49, 50, 51, 52, 53, 54, 55, 56, 57, 58, 59, 60, 61, 62, 63, 64, 65, 66, 67, 68, 69, 70, 71, 72, 73, 74, 75, 76, 77, 78, 79, 80, 81, 82, 83, 84, 85, 86, 96, 97, 98, 99] (by decide +kernel) (by decide +kernel)
set_option maxRecDepth 20000 in
theorem gX10_wipe_J4_setLength_d00df : GoodIn wsX10_wipe (wsV RX10 293 RJ4 yJ4_setLength_d00df wsJ4_setLength_d00df) := goodIn_app (goodIn_of _ (by decide +kernel)) ggX10_wipe_J4_setLength_d00df
theorem dX10_wipe_0 : decode cX10_wipe 0 = .ok (.aload_n 0, 1) := by decide +kernel
theorem dX10_wipe_1 : decode cX10_wipe 1 = .ok (.getfield 43, 3) := by decide +kernel
theorem dX10_wipe_4 : decode cX10_wipe 4 = .ok (.invokevirtual 286, 3) := by decide +kernel
theorem dX10_wipe_7 : decode cX10_wipe 7 = .ok (.istore_n 1, 1) := by decide +kernel
theorem dX10_wipe_8 : decode cX10_wipe 8 = .ok (.aload_n 0, 1) := by decide +kernel
theorem dX10_wipe_9 : decode cX10_wipe 9 = .ok (.getfield 43, 3) := by decide +kernel
theorem dX10_wipe_12 : decode cX10_wipe 12 = .ok (.iconst 0, 1) := by decide +kernel
theorem dX10_wipe_13 : decode cX10_wipe 13 = .ok (.invokevirtual 293, 3) := by decide +kernel
theorem dX10_wipe_16 : decode cX10_wipe 16 = .ok (.iload_n 1, 1) := by decide +kernel
theorem dX10_wipe_17 : decode cX10_wipe 17 = .ok (.ireturn, 1) := by decide +kernel
set_option maxRecDepth 20000 in
theorem ggX10_flaw_X5_findFlaw : GoodIn wsX10_flaw wsX5_findFlaw := goodIn_r _ [7, 8, 9, 10, 11, 12, 13, 6, 14, 15, 16, 17, 18, 19, 20, 21, 22, 23, 24, 25, 26, 27, 28, 29, 30, 31, 32, 33, 34, 35, 36, 37, 38, 39, 40, 41, 42, 43, 44, 45, 46, 47, 48, 49, 50, 51, 52, 53, 54, 55, 56, 57, 58, 59, 60, 61, 62, 63, 64, 65, 66, 67, 68, 69, 70, 71, 72, 73, 74, 75, 76, 77, 78, 79, 80, 81, 82, 83, 84, 85, 86, 87, 88, 89, 90, 91, 92, 93, 94, 104, 105, 106, 107, 108, 109, 110, 111, 112, 113, 114] (by decide +kernel) (by decide +kernel)
set_option maxRecDepth 20000 in
theorem gX10_flaw_X5_findFlaw : GoodIn wsX10_flaw (wsV RX10 296 RX5 yX5_findFlaw wsX5_findFlaw) := goodIn_app (goodIn_of _ (by decide +kernel)) ggX10_flaw_X5_findFlaw
theorem dX10_flaw_0 : decode cX10_flaw 0 = .ok (.aload_n 0, 1) := by decide +kernel
theorem dX10_flaw_1 : decode cX10_flaw 1 = .ok (.getfield 50, 3) := by decide +kernel
theorem dX10_flaw_4 : decode cX10_flaw 4 = .ok (.aload_n 0, 1) := by decide +kernel
theorem dX10_flaw_5 : decode cX10_flaw 5 = .ok (.getfield 43, 3) := by decide +kernel
theorem dX10_flaw_8 : decode cX10_flaw 8 = .ok (.invokevirtual 296, 3) := by decide +kernel
theorem dX10_flaw_11 : decode cX10_flaw 11 = .ok (.ireturn, 1) := by decide +kernel
set_option maxRecDepth 20000 in
theorem ggX10_load_X10_outside : GoodIn wsX10_load wsX10_outside := goodIn_r _ [12] (by decide +kernel) (by decide +kernel)
set_option maxRecDepth 20000 in
theorem gX10_load_X10_outside : GoodIn wsX10_load (va_wsS RX10 57 yX10_outside wsX10_outside) := goodIn_app (goodIn_of _ (by decide +kernel)) ggX10_load_X10_outside
set_option maxRecDepth 20000 in
theorem ggX10_load_X5_findFlaw : GoodIn wsX10_load wsX5_findFlaw := goodIn_r _ [17, 18, 19, 20, 21, 22, 23, 16, 24, 25, 26, 27, 28, 29, 30, 31, 32, 33, 34, 35, 36, 37, 38, 39, 40, 41, 42, 43, 44, 45, 46, 47, 48, 49, 50, 51, 52, 53, 54, 55, 56, 57, 58, 59, 60, 61, 62, 63, 64, 65, 66, 67, 68, 69, 70, 71, 72, 73, 74, 75, 76, 77, 78, 79, 80, 81, 82, 83, 84, 85, 86, 87, 88, 89, 90, 91, 92, 93, 94, 95, 96, 97, 98, 99, 100, 101, 10, 11, 12, 229, 230, 231, 232, 233, 234, 235, 240, 241, 242, 243] (by decide +kernel) (by decide +kernel)
set_option maxRecDepth 20000 in
theorem gX10_load_X5_findFlaw : GoodIn wsX10_load (wsV RX10 296 RX5 yX5_findFlaw wsX5_findFlaw) := goodIn_app (goodIn_of _ (by decide +kernel)) ggX10_load_X5_findFlaw
set_option maxRecDepth 20000 in
theorem ggX10_load_X4_empty : GoodIn wsX10_load wsX4_empty := goodIn_r _ [106, 107, 108, 236, 237, 238, 239] (by decide +kernel) (by decide +kernel)
set_option maxRecDepth 20000 in
theorem gX10_load_X4_empty : GoodIn wsX10_load (wsV RX10 79 RX4 yX4_empty wsX4_empty) := goodIn_app (goodIn_of _ (by decide +kernel)) ggX10_load_X4_empty
set_option maxRecDepth 20000 in
theorem ggX10_load_X4_append : GoodIn wsX10_load wsX4_append := goodIn_r _ [112, 107, 113, 114, 108, 115, 116, 117, 105, 118, 119, 120, 121, 122, 123, 124, 125, 126, 127, 128, 129, 130, 131, 132, 133, 134, 236, 237, 238, 239] (by decide +kernel) (by decide +kernel)
set_option maxRecDepth 20000 in
theorem gX10_load_X4_append : GoodIn wsX10_load (wsV RX10 75 RX4 yX4_append wsX4_append) := goodIn_app (goodIn_of _ (by decide +kernel)) ggX10_load_X4_append
set_option maxRecDepth 20000 in
theorem ggX10_load_J4_setLength_d00df : GoodIn wsX10_load wsJ4_setLength_d00df := goodIn_r _ [138, 139, 140, 34, 141, 36, 142, 38, 48, 143, 144, 145, 146, 147, 148, 47, 149, 150, 151, 152, 153, 154, 155, 156, 157, 158, 159, 160, 51, 161, 162, 163, 164, 165, 166, 167, 168, 169, 170, 171, 172, 173, 174, 175, 176, 177, 50, 52, 178, 179, 180, 181, 182, 183, 184, 185, 186, 187, 188, 189, 190, 191, 192, 193, 194, 195, 196, 197, 198, 199, 64, 200, 201, 240, 241, 242, 243] (by decide +kernel) (by decide +kernel)
set_option maxRecDepth 20000 in
theorem gX10_load_J4_setLength_d00df : GoodIn wsX10_load (wsV RX10 293 RJ4 yJ4_setLength_d00df wsJ4_setLength_d00df) := goodIn_app (goodIn_of _ (by decide +kernel)) ggX10_load_J4_setLength_d00df
theorem dX10_load_0 : decode cX10_load 0 = .ok (.iload_n 1, 1) := by decide +kernel
theorem dX10_load_1 : decode cX10_load 1 = .ok (.iconst 0, 1) := by decide +kernel
theorem dX10_load_2 : decode cX10_load 2 = .ok (.iconst 4, 1) := by decide +kernel
theorem dX10_load_3 : decode cX10_load 3 = .ok (.invokestatic 57, 3) := by decide +kernel
theorem dX10_load_6 : decode cX10_load 6 = .ok (.ifCond .eq 5, 3) := by decide +kernel
theorem dX10_load_9 : decode cX10_load 9 = .ok (.iconst (-1), 1) := by decide +kernel
theorem dX10_load_10 : decode cX10_load 10 = .ok (.ireturn, 1) := by decide +kernel
theorem dX10_load_11 : decode cX10_load 11 = .ok (.aload_n 0, 1) := by decide +kernel
theorem dX10_load_12 : decode cX10_load 12 = .ok (.getfield 50, 3) := by decide +kernel
theorem dX10_load_15 : decode cX10_load 15 = .ok (.aload_n 0, 1) := by decide +kernel
theorem dX10_load_16 : decode cX10_load 16 = .ok (.getfield 43, 3) := by decide +kernel
theorem dX10_load_19 : decode cX10_load 19 = .ok (.invokevirtual 296, 3) := by decide +kernel
theorem dX10_load_22 : decode cX10_load 22 = .ok (.bipush (-6), 2) := by decide +kernel
theorem dX10_load_24 : decode cX10_load 24 = .ok (.if_icmp .eq 6, 3) := by decide +kernel
theorem dX10_load_27 : decode cX10_load 27 = .ok (.bipush (-3), 2) := by decide +kernel
theorem dX10_load_29 : decode cX10_load 29 = .ok (.ireturn, 1) := by decide +kernel
theorem dX10_load_30 : decode cX10_load 30 = .ok (.aload_n 0, 1) := by decide +kernel
theorem dX10_load_31 : decode cX10_load 31 = .ok (.getfield 10, 3) := by decide +kernel
theorem dX10_load_34 : decode cX10_load 34 = .ok (.getfield 65, 3) := by decide +kernel
theorem dX10_load_37 : decode cX10_load 37 = .ok (.iload_n 1, 1) := by decide +kernel
theorem dX10_load_38 : decode cX10_load 38 = .ok (.aaload, 1) := by decide +kernel
theorem dX10_load_39 : decode cX10_load 39 = .ok (.astore_n 2, 1) := by decide +kernel
theorem dX10_load_40 : decode cX10_load 40 = .ok (.aload_n 2, 1) := by decide +kernel
theorem dX10_load_41 : decode cX10_load 41 = .ok (.invokevirtual 79, 3) := by decide +kernel
theorem dX10_load_44 : decode cX10_load 44 = .ok (.iconst 0, 1) := by decide +kernel
theorem dX10_load_45 : decode cX10_load 45 = .ok (.istore_n 3, 1) := by decide +kernel
theorem dX10_load_46 : decode cX10_load 46 = .ok (.iload_n 3, 1) := by decide +kernel
theorem dX10_load_47 : decode cX10_load 47 = .ok (.aload_n 0, 1) := by decide +kernel
theorem dX10_load_48 : decode cX10_load 48 = .ok (.getfield 50, 3) := by decide +kernel
theorem dX10_load_51 : decode cX10_load 51 = .ok (.getfield 300, 3) := by decide +kernel
theorem dX10_load_54 : decode cX10_load 54 = .ok (.if_icmp .ge 31, 3) := by decide +kernel
theorem dX10_load_57 : decode cX10_load 57 = .ok (.aload_n 2, 1) := by decide +kernel
theorem dX10_load_58 : decode cX10_load 58 = .ok (.aload_n 0, 1) := by decide +kernel
theorem dX10_load_59 : decode cX10_load 59 = .ok (.getfield 50, 3) := by decide +kernel
theorem dX10_load_62 : decode cX10_load 62 = .ok (.getfield 303, 3) := by decide +kernel
theorem dX10_load_65 : decode cX10_load 65 = .ok (.iload_n 3, 1) := by decide +kernel
theorem dX10_load_66 : decode cX10_load 66 = .ok (.iaload, 1) := by decide +kernel
theorem dX10_load_67 : decode cX10_load 67 = .ok (.aload_n 0, 1) := by decide +kernel
theorem dX10_load_68 : decode cX10_load 68 = .ok (.getfield 50, 3) := by decide +kernel
theorem dX10_load_71 : decode cX10_load 71 = .ok (.getfield 304, 3) := by decide +kernel
theorem dX10_load_74 : decode cX10_load 74 = .ok (.iload_n 3, 1) := by decide +kernel
theorem dX10_load_75 : decode cX10_load 75 = .ok (.iaload, 1) := by decide +kernel
theorem dX10_load_76 : decode cX10_load 76 = .ok (.invokevirtual 75, 3) := by decide +kernel
theorem dX10_load_79 : decode cX10_load 79 = .ok (.iinc 3 1, 3) := by decide +kernel
theorem dX10_load_82 : decode cX10_load 82 = .ok (.goto (-36), 3) := by decide +kernel
theorem dX10_load_85 : decode cX10_load 85 = .ok (.aload_n 0, 1) := by decide +kernel
theorem dX10_load_86 : decode cX10_load 86 = .ok (.getfield 43, 3) := by decide +kernel
theorem dX10_load_89 : decode cX10_load 89 = .ok (.iconst 0, 1) := by decide +kernel
theorem dX10_load_90 : decode cX10_load 90 = .ok (.invokevirtual 293, 3) := by decide +kernel
theorem dX10_load_93 : decode cX10_load 93 = .ok (.aload_n 2, 1) := by decide +kernel
theorem dX10_load_94 : decode cX10_load 94 = .ok (.getfield 69, 3) := by decide +kernel
theorem dX10_load_97 : decode cX10_load 97 = .ok (.ireturn, 1) := by decide +kernel
set_option maxRecDepth 20000 in
theorem ggX10_spell_X10_outside : GoodIn wsX10_spell wsX10_outside := goodIn_r _ [7] (by decide +kernel) (by decide +kernel)
set_option maxRecDepth 20000 in
theorem gX10_spell_X10_outside : GoodIn wsX10_spell (va_wsS RX10 57 yX10_outside wsX10_outside) := goodIn_app (goodIn_of _ (by decide +kernel)) ggX10_spell_X10_outside
set_option maxRecDepth 20000 in
theorem ggX10_spell_X4_writeTo : GoodIn wsX10_spell wsX4_writeTo := goodIn_r _ [12, 13, 14, 15, 16, 17, 18, 19, 20, 21, 22, 23, 24, 25, 26, 27, 28, 29, 30, 31, 32, 33, 34, 35, 36, 37, 38, 39, 40, 41, 42, 43, 44, 45, 46, 47, 48, 49, 50, 51, 52, 53, 54, 55, 56, 57, 58, 59, 60, 61, 62, 63, 64, 65, 66, 67, 68, 69, 70, 71, 72, 73, 74, 75, 76, 77, 78, 79, 80, 81, 82, 83, 84, 85, 86, 87, 88, 89, 90, 91, 92, 93, 94, 95, 96, 97, 98, 99, 100, 101, 102, 103, 104, 105, 106, 107, 108, 109, 110, 111, 112, 113, 114, 115, 116, 117, 118, 119, 120, 121, 122, 123, 124, 125, 126, 127, 128, 129, 130, 131, 132, 133, 134, 135, 136, 137, 138, 139, 140, 141, 142, 143, 144, 145, 146, 147, 148, 149, 150, 151, 152, 153, 154, 155, 156, 157, 158, 159, 160, 161, 162, 163, 164, 165, 166, 167, 168, 169, 170, 171, 172, 173, 174, 175, 176, 177, 178, 179, 180, 181, 182, 183, 184, 185, 186, 187, 188, 237, 238, 239, 240, 241, 242, 243, 244] (by decide +kernel) (by decide +kernel)
set_option maxRecDepth 20000 in
theorem gX10_spell_X4_writeTo : GoodIn wsX10_spell (wsV RX10 305 RX4 yX4_writeTo wsX4_writeTo) := goodIn_app (goodIn_of _ (by decide +kernel)) ggX10_spell_X4_writeTo
set_option maxRecDepth 20000 in
theorem ggX10_spell_J4_length_8abf5 : GoodIn wsX10_spell wsJ4_length_8abf5 := goodIn_r _ [192, 193, 194, 23, 195, 25, 196, 27, 241, 242, 243, 244] (by decide +kernel) (by decide +kernel)
set_option maxRecDepth 20000 in
theorem gX10_spell_J4_length_8abf5 : GoodIn wsX10_spell (wsV RX10 286 RJ4 yJ4_length_8abf5 wsJ4_length_8abf5) := goodIn_app (goodIn_of _ (by decide +kernel)) ggX10_spell_J4_length_8abf5
set_option maxRecDepth 20000 in
theorem ggX10_spell_J4_charAt_5068e : GoodIn wsX10_spell wsJ4_charAt_5068e := goodIn_r _ [200, 201, 202, 23, 203, 25, 204, 35, 28, 27, 205, 66, 48, 67, 206, 150, 130, 151, 132, 152, 153, 135, 154, 207, 208, 90, 209, 140, 141, 142, 125, 126, 127, 241, 242, 243, 244] (by decide +kernel) (by decide +kernel)
set_option maxRecDepth 20000 in
theorem gX10_spell_J4_charAt_5068e : GoodIn wsX10_spell (wsV RX10 309 RJ4 yJ4_charAt_5068e wsJ4_charAt_5068e) := goodIn_app (goodIn_of _ (by decide +kernel)) ggX10_spell_J4_charAt_5068e
theorem dX10_spell_0 : decode cX10_spell 0 = .ok (.iload_n 1, 1) := by decide +kernel
theorem dX10_spell_1 : decode cX10_spell 1 = .ok (.iconst 0, 1) := by decide +kernel
theorem dX10_spell_2 : decode cX10_spell 2 = .ok (.iconst 4, 1) := by decide +kernel
theorem dX10_spell_3 : decode cX10_spell 3 = .ok (.invokestatic 57, 3) := by decide +kernel
theorem dX10_spell_6 : decode cX10_spell 6 = .ok (.ifCond .eq 5, 3) := by decide +kernel
theorem dX10_spell_9 : decode cX10_spell 9 = .ok (.iconst (-1), 1) := by decide +kernel
theorem dX10_spell_10 : decode cX10_spell 10 = .ok (.ireturn, 1) := by decide +kernel
theorem dX10_spell_11 : decode cX10_spell 11 = .ok (.aload_n 0, 1) := by decide +kernel
theorem dX10_spell_12 : decode cX10_spell 12 = .ok (.getfield 10, 3) := by decide +kernel
theorem dX10_spell_15 : decode cX10_spell 15 = .ok (.getfield 65, 3) := by decide +kernel
theorem dX10_spell_18 : decode cX10_spell 18 = .ok (.iload_n 1, 1) := by decide +kernel
theorem dX10_spell_19 : decode cX10_spell 19 = .ok (.aaload, 1) := by decide +kernel
theorem dX10_spell_20 : decode cX10_spell 20 = .ok (.aload_n 0, 1) := by decide +kernel
theorem dX10_spell_21 : decode cX10_spell 21 = .ok (.getfield 54, 3) := by decide +kernel
theorem dX10_spell_24 : decode cX10_spell 24 = .ok (.invokevirtual 305, 3) := by decide +kernel
theorem dX10_spell_27 : decode cX10_spell 27 = .ok (.iload_n 2, 1) := by decide +kernel
theorem dX10_spell_28 : decode cX10_spell 28 = .ok (.iconst (-1), 1) := by decide +kernel
theorem dX10_spell_29 : decode cX10_spell 29 = .ok (.if_icmp .ne 11, 3) := by decide +kernel
theorem dX10_spell_32 : decode cX10_spell 32 = .ok (.aload_n 0, 1) := by decide +kernel
theorem dX10_spell_33 : decode cX10_spell 33 = .ok (.getfield 54, 3) := by decide +kernel
theorem dX10_spell_36 : decode cX10_spell 36 = .ok (.invokevirtual 286, 3) := by decide +kernel
theorem dX10_spell_39 : decode cX10_spell 39 = .ok (.ireturn, 1) := by decide +kernel
theorem dX10_spell_40 : decode cX10_spell 40 = .ok (.iload_n 2, 1) := by decide +kernel
theorem dX10_spell_41 : decode cX10_spell 41 = .ok (.iconst 0, 1) := by decide +kernel
theorem dX10_spell_42 : decode cX10_spell 42 = .ok (.aload_n 0, 1) := by decide +kernel
theorem dX10_spell_43 : decode cX10_spell 43 = .ok (.getfield 54, 3) := by decide +kernel
theorem dX10_spell_46 : decode cX10_spell 46 = .ok (.invokevirtual 286, 3) := by decide +kernel
theorem dX10_spell_49 : decode cX10_spell 49 = .ok (.iconst 1, 1) := by decide +kernel
theorem dX10_spell_50 : decode cX10_spell 50 = .ok (.isub, 1) := by decide +kernel
theorem dX10_spell_51 : decode cX10_spell 51 = .ok (.invokestatic 57, 3) := by decide +kernel
theorem dX10_spell_54 : decode cX10_spell 54 = .ok (.ifCond .eq 6, 3) := by decide +kernel
theorem dX10_spell_57 : decode cX10_spell 57 = .ok (.bipush (-6), 2) := by decide +kernel
theorem dX10_spell_59 : decode cX10_spell 59 = .ok (.ireturn, 1) := by decide +kernel
theorem dX10_spell_60 : decode cX10_spell 60 = .ok (.aload_n 0, 1) := by decide +kernel
theorem dX10_spell_61 : decode cX10_spell 61 = .ok (.getfield 54, 3) := by decide +kernel
theorem dX10_spell_64 : decode cX10_spell 64 = .ok (.iload_n 2, 1) := by decide +kernel
theorem dX10_spell_65 : decode cX10_spell 65 = .ok (.invokevirtual 309, 3) := by decide +kernel
theorem dX10_spell_68 : decode cX10_spell 68 = .ok (.ireturn, 1) := by decide +kernel
set_option maxRecDepth 20000 in
theorem ggX10_count_J4_length_8abf5 : GoodIn wsX10_count wsJ4_length_8abf5 := goodIn_r _ [14, 15, 16, 17, 18, 19, 20, 21, 54, 55, 56, 57] (by decide +kernel) (by decide +kernel)
set_option maxRecDepth 20000 in
theorem gX10_count_J4_length_8abf5 : GoodIn wsX10_count (wsV RX10 286 RJ4 yJ4_length_8abf5 wsJ4_length_8abf5) := goodIn_app (goodIn_of _ (by decide +kernel)) ggX10_count_J4_length_8abf5
theorem dX10_count_0 : decode cX10_count 0 = .ok (.aload_n 0, 1) := by decide +kernel
theorem dX10_count_1 : decode cX10_count 1 = .ok (.getfield 10, 3) := by decide +kernel
theorem dX10_count_4 : decode cX10_count 4 = .ok (.getfield 149, 3) := by decide +kernel
theorem dX10_count_7 : decode cX10_count 7 = .ok (.astore_n 2, 1) := by decide +kernel
theorem dX10_count_8 : decode cX10_count 8 = .ok (.iload_n 1, 1) := by decide +kernel
theorem dX10_count_9 : decode cX10_count 9 = .ok (.bipush 10, 2) := by decide +kernel
theorem dX10_count_11 : decode cX10_count 11 = .ok (.if_icmp .lt 22, 3) := by decide +kernel
theorem dX10_count_14 : decode cX10_count 14 = .ok (.iload_n 1, 1) := by decide +kernel
theorem dX10_count_15 : decode cX10_count 15 = .ok (.bipush 18, 2) := by decide +kernel
theorem dX10_count_17 : decode cX10_count 17 = .ok (.if_icmp .ge 16, 3) := by decide +kernel
theorem dX10_count_20 : decode cX10_count 20 = .ok (.aload_n 0, 1) := by decide +kernel
theorem dX10_count_21 : decode cX10_count 21 = .ok (.getfield 10, 3) := by decide +kernel
theorem dX10_count_24 : decode cX10_count 24 = .ok (.getfield 108, 3) := by decide +kernel
theorem dX10_count_27 : decode cX10_count 27 = .ok (.iload_n 1, 1) := by decide +kernel
theorem dX10_count_28 : decode cX10_count 28 = .ok (.bipush 10, 2) := by decide +kernel
theorem dX10_count_30 : decode cX10_count 30 = .ok (.isub, 1) := by decide +kernel
theorem dX10_count_31 : decode cX10_count 31 = .ok (.iaload, 1) := by decide +kernel
theorem dX10_count_32 : decode cX10_count 32 = .ok (.ireturn, 1) := by decide +kernel
theorem dX10_count_33 : decode cX10_count 33 = .ok (.iload_n 1, 1) := by decide +kernel
theorem dX10_count_34 : decode cX10_count 34 = .ok (.tableswitch 130 0 9 #[54, 62, 73, 81, 88, 95, 102, 109, 116, 123], 54) := by decide +kernel
theorem dX10_count_88 : decode cX10_count 88 = .ok (.aload_n 0, 1) := by decide +kernel
theorem dX10_count_89 : decode cX10_count 89 = .ok (.getfield 10, 3) := by decide +kernel
theorem dX10_count_92 : decode cX10_count 92 = .ok (.getfield 139, 3) := by decide +kernel
theorem dX10_count_95 : decode cX10_count 95 = .ok (.ireturn, 1) := by decide +kernel
theorem dX10_count_96 : decode cX10_count 96 = .ok (.aload_n 0, 1) := by decide +kernel
theorem dX10_count_97 : decode cX10_count 97 = .ok (.getfield 10, 3) := by decide +kernel
theorem dX10_count_100 : decode cX10_count 100 = .ok (.getfield 257, 3) := by decide +kernel
theorem dX10_count_103 : decode cX10_count 103 = .ok (.getfield 313, 3) := by decide +kernel
theorem dX10_count_106 : decode cX10_count 106 = .ok (.ireturn, 1) := by decide +kernel
theorem dX10_count_107 : decode cX10_count 107 = .ok (.aload_n 0, 1) := by decide +kernel
theorem dX10_count_108 : decode cX10_count 108 = .ok (.getfield 43, 3) := by decide +kernel
theorem dX10_count_111 : decode cX10_count 111 = .ok (.invokevirtual 286, 3) := by decide +kernel
theorem dX10_count_114 : decode cX10_count 114 = .ok (.ireturn, 1) := by decide +kernel
theorem dX10_count_115 : decode cX10_count 115 = .ok (.aload_n 2, 1) := by decide +kernel
theorem dX10_count_116 : decode cX10_count 116 = .ok (.getfield 153, 3) := by decide +kernel
theorem dX10_count_119 : decode cX10_count 119 = .ok (.iconst 0, 1) := by decide +kernel
theorem dX10_count_120 : decode cX10_count 120 = .ok (.iaload, 1) := by decide +kernel
theorem dX10_count_121 : decode cX10_count 121 = .ok (.ireturn, 1) := by decide +kernel
theorem dX10_count_122 : decode cX10_count 122 = .ok (.aload_n 2, 1) := by decide +kernel
theorem dX10_count_123 : decode cX10_count 123 = .ok (.getfield 153, 3) := by decide +kernel
theorem dX10_count_126 : decode cX10_count 126 = .ok (.iconst 1, 1) := by decide +kernel
theorem dX10_count_127 : decode cX10_count 127 = .ok (.iaload, 1) := by decide +kernel
theorem dX10_count_128 : decode cX10_count 128 = .ok (.ireturn, 1) := by decide +kernel
theorem dX10_count_129 : decode cX10_count 129 = .ok (.aload_n 2, 1) := by decide +kernel
theorem dX10_count_130 : decode cX10_count 130 = .ok (.getfield 158, 3) := by decide +kernel
theorem dX10_count_133 : decode cX10_count 133 = .ok (.iconst 1, 1) := by decide +kernel
theorem dX10_count_134 : decode cX10_count 134 = .ok (.iaload, 1) := by decide +kernel
theorem dX10_count_135 : decode cX10_count 135 = .ok (.ireturn, 1) := by decide +kernel
theorem dX10_count_136 : decode cX10_count 136 = .ok (.aload_n 2, 1) := by decide +kernel
theorem dX10_count_137 : decode cX10_count 137 = .ok (.getfield 153, 3) := by decide +kernel
theorem dX10_count_140 : decode cX10_count 140 = .ok (.iconst 2, 1) := by decide +kernel
theorem dX10_count_141 : decode cX10_count 141 = .ok (.iaload, 1) := by decide +kernel
theorem dX10_count_142 : decode cX10_count 142 = .ok (.ireturn, 1) := by decide +kernel
theorem dX10_count_143 : decode cX10_count 143 = .ok (.aload_n 2, 1) := by decide +kernel
theorem dX10_count_144 : decode cX10_count 144 = .ok (.getfield 158, 3) := by decide +kernel
theorem dX10_count_147 : decode cX10_count 147 = .ok (.iconst 2, 1) := by decide +kernel
theorem dX10_count_148 : decode cX10_count 148 = .ok (.iaload, 1) := by decide +kernel
theorem dX10_count_149 : decode cX10_count 149 = .ok (.ireturn, 1) := by decide +kernel
theorem dX10_count_150 : decode cX10_count 150 = .ok (.aload_n 2, 1) := by decide +kernel
theorem dX10_count_151 : decode cX10_count 151 = .ok (.getfield 153, 3) := by decide +kernel
theorem dX10_count_154 : decode cX10_count 154 = .ok (.iconst 3, 1) := by decide +kernel
theorem dX10_count_155 : decode cX10_count 155 = .ok (.iaload, 1) := by decide +kernel
theorem dX10_count_156 : decode cX10_count 156 = .ok (.ireturn, 1) := by decide +kernel
theorem dX10_count_157 : decode cX10_count 157 = .ok (.aload_n 2, 1) := by decide +kernel
theorem dX10_count_158 : decode cX10_count 158 = .ok (.getfield 158, 3) := by decide +kernel
theorem dX10_count_161 : decode cX10_count 161 = .ok (.iconst 3, 1) := by decide +kernel
theorem dX10_count_162 : decode cX10_count 162 = .ok (.iaload, 1) := by decide +kernel
theorem dX10_count_163 : decode cX10_count 163 = .ok (.ireturn, 1) := by decide +kernel
theorem dX10_count_164 : decode cX10_count 164 = .ok (.bipush (-2), 2) := by decide +kernel
theorem dX10_count_166 : decode cX10_count 166 = .ok (.ireturn, 1) := by decide +kernel
set_option maxRecDepth 20000 in
theorem ggX10_save_X10_outside : GoodIn wsX10_save wsX10_outside := goodIn_r _ [10] (by decide +kernel) (by decide +kernel)
set_option maxRecDepth 20000 in
theorem gX10_save_X10_outside : GoodIn wsX10_save (va_wsS RX10 57 yX10_outside wsX10_outside) := goodIn_app (goodIn_of _ (by decide +kernel)) ggX10_save_X10_outside
set_option maxRecDepth 20000 in
theorem ggX10_save_X6_init : GoodIn wsX10_save wsX6_init := goodIn_r _ [13, 14, 15, 16, 17, 18, 19, 20, 21, 22, 23, 24, 25, 26, 27, 28, 29, 30, 31, 32, 33, 34, 35, 36, 37, 38, 39, 40, 41, 42, 43, 44, 45, 46, 47, 48, 49, 50, 51, 52, 53, 54, 55, 56, 57, 58, 59, 60, 61, 62, 63, 64, 65, 66, 67, 68, 69, 70, 71, 72, 73, 74, 75, 76, 77, 78, 79, 80, 81, 82, 83, 84, 85, 86, 87, 88, 89, 90, 91, 92, 173, 174, 175, 176, 177, 178, 179, 180, 181, 182, 183, 184, 185, 186, 187, 188, 189, 190, 191, 192, 193, 194, 195, 196, 197, 198, 199, 200, 201, 202, 203, 204, 205, 206, 207, 208, 209, 210, 211, 212, 213, 214, 215, 216, 217, 218, 219] (by decide +kernel) (by decide +kernel)
set_option maxRecDepth 20000 in
theorem gX10_save_X6_init : GoodIn wsX10_save (wsX6_init) := ggX10_save_X6_init
set_option maxRecDepth 20000 in
theorem ggX10_save_X6_becomeLike : GoodIn wsX10_save wsX6_becomeLike := goodIn_r _ [96, 18, 24, 20, 97, 98, 99, 100, 28, 32, 36, 37, 41, 45, 49, 101, 102, 103, 104, 105, 106, 50, 107, 108, 109, 110, 52, 111, 90, 112, 91, 113, 92, 114, 115, 116, 23, 117, 58, 57, 118, 119, 120, 121, 122, 27, 123, 62, 124, 63, 125, 126, 127, 31, 128, 68, 69, 70, 129, 130, 131, 132, 133, 40, 134, 135, 136, 137, 138, 139, 140, 141, 142, 143, 144, 145, 35, 146, 77, 147, 148, 149, 150, 151, 152, 153, 44, 154, 155, 156, 157, 81, 158, 159, 160, 48, 161, 85, 162, 86, 163, 173, 174, 175, 176, 177, 178, 179, 180, 181, 182, 183, 184, 185, 186, 187, 188, 189, 190, 216, 217, 218, 219, 191, 192, 193, 194, 195, 196, 197, 198, 199, 200, 201, 205, 206, 207, 208, 202, 203, 204, 209, 210, 211, 212, 213, 214, 215] (by decide +kernel) (by decide +kernel)
set_option maxRecDepth 20000 in
theorem gX10_save_X6_becomeLike : GoodIn wsX10_save (wsV RX10 278 RX6 yX6_becomeLike wsX6_becomeLike) := goodIn_app (goodIn_of _ (by decide +kernel)) ggX10_save_X6_becomeLike
theorem dX10_save_0 : decode cX10_save 0 = .ok (.iload_n 1, 1) := by decide +kernel
theorem dX10_save_1 : decode cX10_save 1 = .ok (.iconst 0, 1) := by decide +kernel
theorem dX10_save_2 : decode cX10_save 2 = .ok (.iconst 1, 1) := by decide +kernel
theorem dX10_save_3 : decode cX10_save 3 = .ok (.invokestatic 57, 3) := by decide +kernel
theorem dX10_save_6 : decode cX10_save 6 = .ok (.ifCond .eq 6, 3) := by decide +kernel
theorem dX10_save_9 : decode cX10_save 9 = .ok (.bipush (-2), 2) := by decide +kernel
theorem dX10_save_11 : decode cX10_save 11 = .ok (.ireturn, 1) := by decide +kernel
theorem dX10_save_12 : decode cX10_save 12 = .ok (.aload_n 0, 1) := by decide +kernel
theorem dX10_save_13 : decode cX10_save 13 = .ok (.getfield 19, 3) := by decide +kernel
theorem dX10_save_16 : decode cX10_save 16 = .ok (.iload_n 1, 1) := by decide +kernel
theorem dX10_save_17 : decode cX10_save 17 = .ok (.aaload, 1) := by decide +kernel
theorem dX10_save_18 : decode cX10_save 18 = .ok (.ifnonnull 16, 3) := by decide +kernel
theorem dX10_save_21 : decode cX10_save 21 = .ok (.aload_n 0, 1) := by decide +kernel
theorem dX10_save_22 : decode cX10_save 22 = .ok (.getfield 19, 3) := by decide +kernel
theorem dX10_save_25 : decode cX10_save 25 = .ok (.iload_n 1, 1) := by decide +kernel
theorem dX10_save_26 : decode cX10_save 26 = .ok (.new 7, 3) := by decide +kernel
theorem dX10_save_29 : decode cX10_save 29 = .ok (.dup, 1) := by decide +kernel
theorem dX10_save_30 : decode cX10_save 30 = .ok (.invokespecial 9, 3) := by decide +kernel
theorem dX10_save_33 : decode cX10_save 33 = .ok (.aastore, 1) := by decide +kernel
theorem dX10_save_34 : decode cX10_save 34 = .ok (.aload_n 0, 1) := by decide +kernel
theorem dX10_save_35 : decode cX10_save 35 = .ok (.getfield 19, 3) := by decide +kernel
theorem dX10_save_38 : decode cX10_save 38 = .ok (.iload_n 1, 1) := by decide +kernel
theorem dX10_save_39 : decode cX10_save 39 = .ok (.aaload, 1) := by decide +kernel
theorem dX10_save_40 : decode cX10_save 40 = .ok (.aload_n 0, 1) := by decide +kernel
theorem dX10_save_41 : decode cX10_save 41 = .ok (.getfield 10, 3) := by decide +kernel
theorem dX10_save_44 : decode cX10_save 44 = .ok (.invokevirtual 278, 3) := by decide +kernel
theorem dX10_save_47 : decode cX10_save 47 = .ok (.aload_n 0, 1) := by decide +kernel
theorem dX10_save_48 : decode cX10_save 48 = .ok (.getfield 10, 3) := by decide +kernel
theorem dX10_save_51 : decode cX10_save 51 = .ok (.getfield 139, 3) := by decide +kernel
theorem dX10_save_54 : decode cX10_save 54 = .ok (.ireturn, 1) := by decide +kernel
set_option maxRecDepth 20000 in
theorem ggX10_restore_X10_outside : GoodIn wsX10_restore wsX10_outside := goodIn_r _ [7] (by decide +kernel) (by decide +kernel)
set_option maxRecDepth 20000 in
theorem gX10_restore_X10_outside : GoodIn wsX10_restore (va_wsS RX10 57 yX10_outside wsX10_outside) := goodIn_app (goodIn_of _ (by decide +kernel)) ggX10_restore_X10_outside
set_option maxRecDepth 20000 in
theorem ggX10_restore_X6_becomeLike : GoodIn wsX10_restore wsX6_becomeLike := goodIn_r _ [12, 13, 14, 15, 16, 17, 18, 19, 20, 21, 22, 23, 24, 25, 26, 27, 28, 29, 30, 31, 32, 33, 34, 35, 36, 37, 38, 39, 40, 41, 42, 43, 44, 45, 46, 47, 48, 49, 50, 51, 52, 53, 54, 55, 56, 57, 58, 59, 60, 61, 62, 63, 64, 65, 66, 67, 68, 69, 70, 71, 72, 73, 74, 75, 76, 77, 78, 79, 80, 81, 82, 83, 84, 85, 86, 87, 88, 89, 90, 91, 92, 93, 94, 95, 96, 97, 98, 99, 100, 101, 102, 103, 104, 105, 106, 107, 108, 109, 110, 111, 112, 122, 123, 124, 125, 126, 127, 128, 129, 130, 131, 132, 133, 134, 135, 136, 137, 138, 139, 140, 141, 142, 143, 144, 145, 146, 147, 148, 149, 150, 151, 152, 153, 154, 155, 156, 157, 158, 159, 160, 161, 162, 163, 164, 165, 166, 167, 168] (by decide +kernel) (by decide +kernel)
set_option maxRecDepth 20000 in
theorem gX10_restore_X6_becomeLike : GoodIn wsX10_restore (wsV RX10 278 RX6 yX6_becomeLike wsX6_becomeLike) := goodIn_app (goodIn_of _ (by decide +kernel)) ggX10_restore_X6_becomeLike
theorem dX10_restore_0 : decode cX10_restore 0 = .ok (.iload_n 1, 1) := by decide +kernel
theorem dX10_restore_1 : decode cX10_restore 1 = .ok (.iconst 0, 1) := by decide +kernel
theorem dX10_restore_2 : decode cX10_restore 2 = .ok (.iconst 1, 1) := by decide +kernel
theorem dX10_restore_3 : decode cX10_restore 3 = .ok (.invokestatic 57, 3) := by decide +kernel
theorem dX10_restore_6 : decode cX10_restore 6 = .ok (.ifCond .eq 6, 3) := by decide +kernel
theorem dX10_restore_9 : decode cX10_restore 9 = .ok (.bipush (-2), 2) := by decide +kernel
theorem dX10_restore_11 : decode cX10_restore 11 = .ok (.ireturn, 1) := by decide +kernel
theorem dX10_restore_12 : decode cX10_restore 12 = .ok (.aload_n 0, 1) := by decide +kernel
theorem dX10_restore_13 : decode cX10_restore 13 = .ok (.getfield 19, 3) := by decide +kernel
theorem dX10_restore_16 : decode cX10_restore 16 = .ok (.iload_n 1, 1) := by decide +kernel
theorem dX10_restore_17 : decode cX10_restore 17 = .ok (.aaload, 1) := by decide +kernel
theorem dX10_restore_18 : decode cX10_restore 18 = .ok (.ifnonnull 6, 3) := by decide +kernel
theorem dX10_restore_21 : decode cX10_restore 21 = .ok (.bipush (-5), 2) := by decide +kernel
theorem dX10_restore_23 : decode cX10_restore 23 = .ok (.ireturn, 1) := by decide +kernel
theorem dX10_restore_24 : decode cX10_restore 24 = .ok (.aload_n 0, 1) := by decide +kernel
theorem dX10_restore_25 : decode cX10_restore 25 = .ok (.getfield 10, 3) := by decide +kernel
theorem dX10_restore_28 : decode cX10_restore 28 = .ok (.aload_n 0, 1) := by decide +kernel
theorem dX10_restore_29 : decode cX10_restore 29 = .ok (.getfield 19, 3) := by decide +kernel
theorem dX10_restore_32 : decode cX10_restore 32 = .ok (.iload_n 1, 1) := by decide +kernel
theorem dX10_restore_33 : decode cX10_restore 33 = .ok (.aaload, 1) := by decide +kernel
theorem dX10_restore_34 : decode cX10_restore 34 = .ok (.invokevirtual 278, 3) := by decide +kernel
theorem dX10_restore_37 : decode cX10_restore 37 = .ok (.aload_n 0, 1) := by decide +kernel
theorem dX10_restore_38 : decode cX10_restore 38 = .ok (.getfield 10, 3) := by decide +kernel
theorem dX10_restore_41 : decode cX10_restore 41 = .ok (.getfield 139, 3) := by decide +kernel
theorem dX10_restore_44 : decode cX10_restore 44 = .ok (.ireturn, 1) := by decide +kernel
theorem dX10_outside_0 : decode cX10_outside 0 = .ok (.iload_n 0, 1) := by decide +kernel
theorem dX10_outside_1 : decode cX10_outside 1 = .ok (.iload_n 1, 1) := by decide +kernel
theorem dX10_outside_2 : decode cX10_outside 2 = .ok (.if_icmp .lt 8, 3) := by decide +kernel
theorem dX10_outside_5 : decode cX10_outside 5 = .ok (.iload_n 0, 1) := by decide +kernel
theorem dX10_outside_6 : decode cX10_outside 6 = .ok (.iload_n 2, 1) := by decide +kernel
theorem dX10_outside_7 : decode cX10_outside 7 = .ok (.if_icmp .le 7, 3) := by decide +kernel
theorem dX10_outside_10 : decode cX10_outside 10 = .ok (.iconst 1, 1) := by decide +kernel
theorem dX10_outside_11 : decode cX10_outside 11 = .ok (.goto 4, 3) := by decide +kernel
theorem dX10_outside_14 : decode cX10_outside 14 = .ok (.iconst 0, 1) := by decide +kernel
theorem dX10_outside_15 : decode cX10_outside 15 = .ok (.ireturn, 1) := by decide +kernel
set_option maxRecDepth 20000 in
theorem ggX10_beyondLimit_X10_outside : GoodIn wsX10_beyondLimit wsX10_outside := goodIn_r _ [4] (by decide +kernel) (by decide +kernel)
set_option maxRecDepth 20000 in
theorem gX10_beyondLimit_X10_outside : GoodIn wsX10_beyondLimit (va_wsS RX10 57 yX10_outside wsX10_outside) := goodIn_app (goodIn_of _ (by decide +kernel)) ggX10_beyondLimit_X10_outside
theorem dX10_beyondLimit_0 : decode cX10_beyondLimit 0 = .ok (.iload_n 0, 1) := by decide +kernel
theorem dX10_beyondLimit_1 : decode cX10_beyondLimit 1 = .ok (.sipush (-20000), 3) := by decide +kernel
theorem dX10_beyondLimit_4 : decode cX10_beyondLimit 4 = .ok (.sipush 20000, 3) := by decide +kernel
theorem dX10_beyondLimit_7 : decode cX10_beyondLimit 7 = .ok (.invokestatic 57, 3) := by decide +kernel
theorem dX10_beyondLimit_10 : decode cX10_beyondLimit 10 = .ok (.ireturn, 1) := by decide +kernel
set_option maxRecDepth 20000 in
theorem ggX10_isNoFault_X10_outside : GoodIn wsX10_isNoFault wsX10_outside := goodIn_r _ [4] (by decide +kernel) (by decide +kernel)
set_option maxRecDepth 20000 in
theorem gX10_isNoFault_X10_outside : GoodIn wsX10_isNoFault (va_wsS RX10 57 yX10_outside wsX10_outside) := goodIn_app (goodIn_of _ (by decide +kernel)) ggX10_isNoFault_X10_outside
theorem dX10_isNoFault_0 : decode cX10_isNoFault 0 = .ok (.iload_n 0, 1) := by decide +kernel
theorem dX10_isNoFault_1 : decode cX10_isNoFault 1 = .ok (.iconst 0, 1) := by decide +kernel
theorem dX10_isNoFault_2 : decode cX10_isNoFault 2 = .ok (.sipush 1000, 3) := by decide +kernel
theorem dX10_isNoFault_5 : decode cX10_isNoFault 5 = .ok (.invokestatic 57, 3) := by decide +kernel
theorem dX10_isNoFault_8 : decode cX10_isNoFault 8 = .ok (.ifCond .ne 14, 3) := by decide +kernel
theorem dX10_isNoFault_11 : decode cX10_isNoFault 11 = .ok (.iload_n 1, 1) := by decide +kernel
theorem dX10_isNoFault_12 : decode cX10_isNoFault 12 = .ok (.iconst 0, 1) := by decide +kernel
theorem dX10_isNoFault_13 : decode cX10_isNoFault 13 = .ok (.sipush 20000, 3) := by decide +kernel
theorem dX10_isNoFault_16 : decode cX10_isNoFault 16 = .ok (.invokestatic 57, 3) := by decide +kernel
theorem dX10_isNoFault_19 : decode cX10_isNoFault 19 = .ok (.ifCond .eq 7, 3) := by decide +kernel
theorem dX10_isNoFault_22 : decode cX10_isNoFault 22 = .ok (.iconst 1, 1) := by decide +kernel
theorem dX10_isNoFault_23 : decode cX10_isNoFault 23 = .ok (.goto 4, 3) := by decide +kernel
theorem dX10_isNoFault_26 : decode cX10_isNoFault 26 = .ok (.iconst 0, 1) := by decide +kernel
theorem dX10_isNoFault_27 : decode cX10_isNoFault 27 = .ok (.ireturn, 1) := by decide +kernel
theorem dX10_isInSet_0 : decode cX10_isInSet 0 = .ok (.iload_n 1, 1) := by decide +kernel
theorem dX10_isInSet_1 : decode cX10_isInSet 1 = .ok (.iload_n 0, 1) := by decide +kernel
theorem dX10_isInSet_2 : decode cX10_isInSet 2 = .ok (.ishr, 1) := by decide +kernel
theorem dX10_isInSet_3 : decode cX10_isInSet 3 = .ok (.iconst 1, 1) := by decide +kernel
theorem dX10_isInSet_4 : decode cX10_isInSet 4 = .ok (.iand, 1) := by decide +kernel
theorem dX10_isInSet_5 : decode cX10_isInSet 5 = .ok (.iconst 1, 1) := by decide +kernel
theorem dX10_isInSet_6 : decode cX10_isInSet 6 = .ok (.if_icmp .ne 7, 3) := by decide +kernel
theorem dX10_isInSet_9 : decode cX10_isInSet 9 = .ok (.iconst 1, 1) := by decide +kernel
theorem dX10_isInSet_10 : decode cX10_isInSet 10 = .ok (.goto 4, 3) := by decide +kernel
theorem dX10_isInSet_13 : decode cX10_isInSet 13 = .ok (.iconst 0, 1) := by decide +kernel
theorem dX10_isInSet_14 : decode cX10_isInSet 14 = .ok (.ireturn, 1) := by decide +kernel
theorem dX10_asNumber_0 : decode cX10_asNumber 0 = .ok (.iload_n 0, 1) := by decide +kernel
theorem dX10_asNumber_1 : decode cX10_asNumber 1 = .ok (.ifCond .eq 7, 3) := by decide +kernel
theorem dX10_asNumber_4 : decode cX10_asNumber 4 = .ok (.iconst 1, 1) := by decide +kernel
theorem dX10_asNumber_5 : decode cX10_asNumber 5 = .ok (.goto 4, 3) := by decide +kernel
theorem dX10_asNumber_8 : decode cX10_asNumber 8 = .ok (.iconst 0, 1) := by decide +kernel
theorem dX10_asNumber_9 : decode cX10_asNumber 9 = .ok (.ireturn, 1) := by decide +kernel
set_option maxRecDepth 20000 in
theorem ggX10_zonesOfFault_X2_findFaulted : GoodIn wsX10_zonesOfFault wsX2_findFaulted := goodIn_r _ [11, 12, 13, 14, 15, 16, 10, 17, 18, 19, 20, 21, 22, 23, 24, 25, 26, 27, 28, 29, 30, 31, 32, 33, 34, 35, 36, 37, 38, 39, 40, 99, 100, 101, 102, 103, 104] (by decide +kernel) (by decide +kernel)
set_option maxRecDepth 20000 in
theorem gX10_zonesOfFault_X2_findFaulted : GoodIn wsX10_zonesOfFault (wsV RX10 165 RX2 yX2_findFaulted wsX2_findFaulted) := goodIn_app (goodIn_of _ (by decide +kernel)) ggX10_zonesOfFault_X2_findFaulted
set_option maxRecDepth 20000 in
theorem ggX10_zonesOfFault_X0_become : GoodIn wsX10_zonesOfFault wsX0_become := goodIn_r _ [45, 46, 47, 48, 49, 50, 51, 52, 53, 54, 101, 102, 103, 104, 105, 106, 107, 108] (by decide +kernel) (by decide +kernel)
set_option maxRecDepth 20000 in
theorem gX10_zonesOfFault_X0_become : GoodIn wsX10_zonesOfFault (wsV RX10 316 RX0 yX0_become wsX0_become) := goodIn_app (goodIn_of _ (by decide +kernel)) ggX10_zonesOfFault_X0_become
set_option maxRecDepth 20000 in
theorem ggX10_zonesOfFault_X0_isIn : GoodIn wsX10_zonesOfFault wsX0_isIn := goodIn_r _ [58, 54, 52, 53, 50, 59, 60, 61, 62, 63, 64, 65, 66, 67, 68, 69, 70, 71, 105, 106, 107, 108, 109, 110, 111, 112] (by decide +kernel) (by decide +kernel)
set_option maxRecDepth 20000 in
theorem gX10_zonesOfFault_X0_isIn : GoodIn wsX10_zonesOfFault (wsV RX10 320 RX0 yX0_isIn wsX0_isIn) := goodIn_app (goodIn_of _ (by decide +kernel)) ggX10_zonesOfFault_X0_isIn
theorem dX10_zonesOfFault_0 : decode cX10_zonesOfFault 0 = .ok (.aload_n 0, 1) := by decide +kernel
theorem dX10_zonesOfFault_1 : decode cX10_zonesOfFault 1 = .ok (.getfield 10, 3) := by decide +kernel
theorem dX10_zonesOfFault_4 : decode cX10_zonesOfFault 4 = .ok (.getfield 149, 3) := by decide +kernel
theorem dX10_zonesOfFault_7 : decode cX10_zonesOfFault 7 = .ok (.iload_n 1, 1) := by decide +kernel
theorem dX10_zonesOfFault_8 : decode cX10_zonesOfFault 8 = .ok (.iload_n 2, 1) := by decide +kernel
theorem dX10_zonesOfFault_9 : decode cX10_zonesOfFault 9 = .ok (.aload_n 0, 1) := by decide +kernel
theorem dX10_zonesOfFault_10 : decode cX10_zonesOfFault 10 = .ok (.getfield 26, 3) := by decide +kernel
theorem dX10_zonesOfFault_13 : decode cX10_zonesOfFault 13 = .ok (.invokevirtual 165, 3) := by decide +kernel
theorem dX10_zonesOfFault_16 : decode cX10_zonesOfFault 16 = .ok (.ifCond .ne 6, 3) := by decide +kernel
theorem dX10_zonesOfFault_19 : decode cX10_zonesOfFault 19 = .ok (.bipush (-5), 2) := by decide +kernel
theorem dX10_zonesOfFault_21 : decode cX10_zonesOfFault 21 = .ok (.ireturn, 1) := by decide +kernel
theorem dX10_zonesOfFault_22 : decode cX10_zonesOfFault 22 = .ok (.aload_n 0, 1) := by decide +kernel
theorem dX10_zonesOfFault_23 : decode cX10_zonesOfFault 23 = .ok (.getfield 36, 3) := by decide +kernel
theorem dX10_zonesOfFault_26 : decode cX10_zonesOfFault 26 = .ok (.aload_n 0, 1) := by decide +kernel
theorem dX10_zonesOfFault_27 : decode cX10_zonesOfFault 27 = .ok (.getfield 26, 3) := by decide +kernel
theorem dX10_zonesOfFault_30 : decode cX10_zonesOfFault 30 = .ok (.aload_n 0, 1) := by decide +kernel
theorem dX10_zonesOfFault_31 : decode cX10_zonesOfFault 31 = .ok (.getfield 10, 3) := by decide +kernel
theorem dX10_zonesOfFault_34 : decode cX10_zonesOfFault 34 = .ok (.getfield 108, 3) := by decide +kernel
theorem dX10_zonesOfFault_37 : decode cX10_zonesOfFault 37 = .ok (.iconst 0, 1) := by decide +kernel
theorem dX10_zonesOfFault_38 : decode cX10_zonesOfFault 38 = .ok (.iaload, 1) := by decide +kernel
theorem dX10_zonesOfFault_39 : decode cX10_zonesOfFault 39 = .ok (.invokevirtual 316, 3) := by decide +kernel
theorem dX10_zonesOfFault_42 : decode cX10_zonesOfFault 42 = .ok (.iconst 0, 1) := by decide +kernel
theorem dX10_zonesOfFault_43 : decode cX10_zonesOfFault 43 = .ok (.istore_n 3, 1) := by decide +kernel
theorem dX10_zonesOfFault_44 : decode cX10_zonesOfFault 44 = .ok (.iconst 0, 1) := by decide +kernel
theorem dX10_zonesOfFault_45 : decode cX10_zonesOfFault 45 = .ok (.istore 4, 2) := by decide +kernel
theorem dX10_zonesOfFault_47 : decode cX10_zonesOfFault 47 = .ok (.iload 4, 2) := by decide +kernel
theorem dX10_zonesOfFault_49 : decode cX10_zonesOfFault 49 = .ok (.iconst 3, 1) := by decide +kernel
theorem dX10_zonesOfFault_50 : decode cX10_zonesOfFault 50 = .ok (.if_icmp .ge 36, 3) := by decide +kernel
theorem dX10_zonesOfFault_53 : decode cX10_zonesOfFault 53 = .ok (.aload_n 0, 1) := by decide +kernel
theorem dX10_zonesOfFault_54 : decode cX10_zonesOfFault 54 = .ok (.getfield 36, 3) := by decide +kernel
theorem dX10_zonesOfFault_57 : decode cX10_zonesOfFault 57 = .ok (.aload_n 0, 1) := by decide +kernel
theorem dX10_zonesOfFault_58 : decode cX10_zonesOfFault 58 = .ok (.getfield 10, 3) := by decide +kernel
theorem dX10_zonesOfFault_61 : decode cX10_zonesOfFault 61 = .ok (.getfield 65, 3) := by decide +kernel
theorem dX10_zonesOfFault_64 : decode cX10_zonesOfFault 64 = .ok (.iload 4, 2) := by decide +kernel
theorem dX10_zonesOfFault_66 : decode cX10_zonesOfFault 66 = .ok (.aaload, 1) := by decide +kernel
theorem dX10_zonesOfFault_67 : decode cX10_zonesOfFault 67 = .ok (.invokevirtual 320, 3) := by decide +kernel
theorem dX10_zonesOfFault_70 : decode cX10_zonesOfFault 70 = .ok (.ifCond .eq 10, 3) := by decide +kernel
theorem dX10_zonesOfFault_73 : decode cX10_zonesOfFault 73 = .ok (.iload_n 3, 1) := by decide +kernel
theorem dX10_zonesOfFault_74 : decode cX10_zonesOfFault 74 = .ok (.iconst 1, 1) := by decide +kernel
theorem dX10_zonesOfFault_75 : decode cX10_zonesOfFault 75 = .ok (.iload 4, 2) := by decide +kernel
theorem dX10_zonesOfFault_77 : decode cX10_zonesOfFault 77 = .ok (.ishl, 1) := by decide +kernel
theorem dX10_zonesOfFault_78 : decode cX10_zonesOfFault 78 = .ok (.ior, 1) := by decide +kernel
theorem dX10_zonesOfFault_79 : decode cX10_zonesOfFault 79 = .ok (.istore_n 3, 1) := by decide +kernel
theorem dX10_zonesOfFault_80 : decode cX10_zonesOfFault 80 = .ok (.iinc 4 1, 3) := by decide +kernel
theorem dX10_zonesOfFault_83 : decode cX10_zonesOfFault 83 = .ok (.goto (-36), 3) := by decide +kernel
theorem dX10_zonesOfFault_86 : decode cX10_zonesOfFault 86 = .ok (.iload_n 3, 1) := by decide +kernel
theorem dX10_zonesOfFault_87 : decode cX10_zonesOfFault 87 = .ok (.ireturn, 1) := by decide +kernel
set_option maxRecDepth 20000 in
theorem ggX11_init_X11_quarter : GoodIn wsX11_init wsX11_quarter := goodIn_r _ [31] (by decide +kernel) (by decide +kernel)
set_option maxRecDepth 20000 in
theorem gX11_init_X11_quarter : GoodIn wsX11_init (va_wsS RX11 62 yX11_quarter wsX11_quarter) := goodIn_app (goodIn_of _ (by decide +kernel)) ggX11_init_X11_quarter
theorem dX11_init_0 : decode cX11_init 0 = .ok (.aload_n 0, 1) := by decide +kernel
theorem dX11_init_1 : decode cX11_init 1 = .ok (.invokespecial 1, 3) := by decide +kernel
theorem dX11_init_4 : decode cX11_init 4 = .ok (.aload_n 0, 1) := by decide +kernel
theorem dX11_init_5 : decode cX11_init 5 = .ok (.sipush 310, 3) := by decide +kernel
theorem dX11_init_8 : decode cX11_init 8 = .ok (.newarray .long, 2) := by decide +kernel
theorem dX11_init_10 : decode cX11_init 10 = .ok (.putfield 7, 3) := by decide +kernel
theorem dX11_init_13 : decode cX11_init 13 = .ok (.aload_n 0, 1) := by decide +kernel
theorem dX11_init_14 : decode cX11_init 14 = .ok (.sipush 310, 3) := by decide +kernel
theorem dX11_init_17 : decode cX11_init 17 = .ok (.newarray .long, 2) := by decide +kernel
theorem dX11_init_19 : decode cX11_init 19 = .ok (.putfield 13, 3) := by decide +kernel
theorem dX11_init_22 : decode cX11_init 22 = .ok (.aload_n 0, 1) := by decide +kernel
theorem dX11_init_23 : decode cX11_init 23 = .ok (.sipush 620, 3) := by decide +kernel
theorem dX11_init_26 : decode cX11_init 26 = .ok (.newarray .long, 2) := by decide +kernel
theorem dX11_init_28 : decode cX11_init 28 = .ok (.putfield 16, 3) := by decide +kernel
theorem dX11_init_31 : decode cX11_init 31 = .ok (.aload_n 0, 1) := by decide +kernel
theorem dX11_init_32 : decode cX11_init 32 = .ok (.iconst 2, 1) := by decide +kernel
theorem dX11_init_33 : decode cX11_init 33 = .ok (.newarray .boolean, 2) := by decide +kernel
theorem dX11_init_35 : decode cX11_init 35 = .ok (.putfield 19, 3) := by decide +kernel
theorem dX11_init_38 : decode cX11_init 38 = .ok (.aload_n 0, 1) := by decide +kernel
theorem dX11_init_39 : decode cX11_init 39 = .ok (.bipush 80, 2) := by decide +kernel
theorem dX11_init_41 : decode cX11_init 41 = .ok (.newarray .int, 2) := by decide +kernel
theorem dX11_init_43 : decode cX11_init 43 = .ok (.putfield 23, 3) := by decide +kernel
theorem dX11_init_46 : decode cX11_init 46 = .ok (.aload_n 0, 1) := by decide +kernel
theorem dX11_init_47 : decode cX11_init 47 = .ok (.bipush 24, 2) := by decide +kernel
theorem dX11_init_49 : decode cX11_init 49 = .ok (.newarray .int, 2) := by decide +kernel
theorem dX11_init_51 : decode cX11_init 51 = .ok (.putfield 27, 3) := by decide +kernel
theorem dX11_init_54 : decode cX11_init 54 = .ok (.aload_n 0, 1) := by decide +kernel
theorem dX11_init_55 : decode cX11_init 55 = .ok (.bipush 16, 2) := by decide +kernel
theorem dX11_init_57 : decode cX11_init 57 = .ok (.newarray .int, 2) := by decide +kernel
theorem dX11_init_59 : decode cX11_init 59 = .ok (.putfield 30, 3) := by decide +kernel
theorem dX11_init_62 : decode cX11_init 62 = .ok (.aload_n 0, 1) := by decide +kernel
theorem dX11_init_63 : decode cX11_init 63 = .ok (.bipush 120, 2) := by decide +kernel
theorem dX11_init_65 : decode cX11_init 65 = .ok (.newarray .int, 2) := by decide +kernel
theorem dX11_init_67 : decode cX11_init 67 = .ok (.putfield 33, 3) := by decide +kernel
theorem dX11_init_70 : decode cX11_init 70 = .ok (.aload_n 0, 1) := by decide +kernel
theorem dX11_init_71 : decode cX11_init 71 = .ok (.getfield 7, 3) := by decide +kernel
theorem dX11_init_74 : decode cX11_init 74 = .ok (.bipush 14, 2) := by decide +kernel
theorem dX11_init_76 : decode cX11_init 76 = .ok (.ldc2_w 36, 3) := by decide +kernel
theorem dX11_init_79 : decode cX11_init 79 = .ok (.lastore, 1) := by decide +kernel
theorem dX11_init_80 : decode cX11_init 80 = .ok (.aload_n 0, 1) := by decide +kernel
theorem dX11_init_81 : decode cX11_init 81 = .ok (.getfield 7, 3) := by decide +kernel
theorem dX11_init_84 : decode cX11_init 84 = .ok (.bipush 15, 2) := by decide +kernel
theorem dX11_init_86 : decode cX11_init 86 = .ok (.ldc2_w 38, 3) := by decide +kernel
theorem dX11_init_89 : decode cX11_init 89 = .ok (.lastore, 1) := by decide +kernel
theorem dX11_init_90 : decode cX11_init 90 = .ok (.aload_n 0, 1) := by decide +kernel
theorem dX11_init_91 : decode cX11_init 91 = .ok (.getfield 7, 3) := by decide +kernel
theorem dX11_init_94 : decode cX11_init 94 = .ok (.bipush 16, 2) := by decide +kernel
theorem dX11_init_96 : decode cX11_init 96 = .ok (.ldc2_w 40, 3) := by decide +kernel
theorem dX11_init_99 : decode cX11_init 99 = .ok (.lastore, 1) := by decide +kernel
theorem dX11_init_100 : decode cX11_init 100 = .ok (.aload_n 0, 1) := by decide +kernel
theorem dX11_init_101 : decode cX11_init 101 = .ok (.getfield 7, 3) := by decide +kernel
theorem dX11_init_104 : decode cX11_init 104 = .ok (.bipush 17, 2) := by decide +kernel
theorem dX11_init_106 : decode cX11_init 106 = .ok (.ldc2_w 42, 3) := by decide +kernel
theorem dX11_init_109 : decode cX11_init 109 = .ok (.lastore, 1) := by decide +kernel
theorem dX11_init_110 : decode cX11_init 110 = .ok (.aload_n 0, 1) := by decide +kernel
theorem dX11_init_111 : decode cX11_init 111 = .ok (.getfield 7, 3) := by decide +kernel
theorem dX11_init_114 : decode cX11_init 114 = .ok (.bipush 18, 2) := by decide +kernel
theorem dX11_init_116 : decode cX11_init 116 = .ok (.ldc2_w 44, 3) := by decide +kernel
theorem dX11_init_119 : decode cX11_init 119 = .ok (.lastore, 1) := by decide +kernel
theorem dX11_init_120 : decode cX11_init 120 = .ok (.aload_n 0, 1) := by decide +kernel
theorem dX11_init_121 : decode cX11_init 121 = .ok (.getfield 7, 3) := by decide +kernel
theorem dX11_init_124 : decode cX11_init 124 = .ok (.bipush 19, 2) := by decide +kernel
theorem dX11_init_126 : decode cX11_init 126 = .ok (.ldc2_w 46, 3) := by decide +kernel
theorem dX11_init_129 : decode cX11_init 129 = .ok (.lastore, 1) := by decide +kernel
theorem dX11_init_130 : decode cX11_init 130 = .ok (.aload_n 0, 1) := by decide +kernel
theorem dX11_init_131 : decode cX11_init 131 = .ok (.getfield 7, 3) := by decide +kernel
theorem dX11_init_134 : decode cX11_init 134 = .ok (.bipush 20, 2) := by decide +kernel
theorem dX11_init_136 : decode cX11_init 136 = .ok (.ldc2_w 48, 3) := by decide +kernel
theorem dX11_init_139 : decode cX11_init 139 = .ok (.lastore, 1) := by decide +kernel
theorem dX11_init_140 : decode cX11_init 140 = .ok (.aload_n 0, 1) := by decide +kernel
theorem dX11_init_141 : decode cX11_init 141 = .ok (.getfield 7, 3) := by decide +kernel
theorem dX11_init_144 : decode cX11_init 144 = .ok (.bipush 21, 2) := by decide +kernel
theorem dX11_init_146 : decode cX11_init 146 = .ok (.ldc2_w 38, 3) := by decide +kernel
theorem dX11_init_149 : decode cX11_init 149 = .ok (.lastore, 1) := by decide +kernel
theorem dX11_init_150 : decode cX11_init 150 = .ok (.aload_n 0, 1) := by decide +kernel
theorem dX11_init_151 : decode cX11_init 151 = .ok (.getfield 7, 3) := by decide +kernel
theorem dX11_init_154 : decode cX11_init 154 = .ok (.bipush 22, 2) := by decide +kernel
theorem dX11_init_156 : decode cX11_init 156 = .ok (.ldc2_w 40, 3) := by decide +kernel
theorem dX11_init_159 : decode cX11_init 159 = .ok (.lastore, 1) := by decide +kernel
theorem dX11_init_160 : decode cX11_init 160 = .ok (.aload_n 0, 1) := by decide +kernel
theorem dX11_init_161 : decode cX11_init 161 = .ok (.getfield 7, 3) := by decide +kernel
theorem dX11_init_164 : decode cX11_init 164 = .ok (.bipush 23, 2) := by decide +kernel
theorem dX11_init_166 : decode cX11_init 166 = .ok (.ldc2_w 50, 3) := by decide +kernel
theorem dX11_init_169 : decode cX11_init 169 = .ok (.lastore, 1) := by decide +kernel
theorem dX11_init_170 : decode cX11_init 170 = .ok (.aload_n 0, 1) := by decide +kernel
theorem dX11_init_171 : decode cX11_init 171 = .ok (.getfield 7, 3) := by decide +kernel
theorem dX11_init_174 : decode cX11_init 174 = .ok (.bipush 24, 2) := by decide +kernel
theorem dX11_init_176 : decode cX11_init 176 = .ok (.ldc2_w 46, 3) := by decide +kernel
theorem dX11_init_179 : decode cX11_init 179 = .ok (.lastore, 1) := by decide +kernel
theorem dX11_init_180 : decode cX11_init 180 = .ok (.aload_n 0, 1) := by decide +kernel
theorem dX11_init_181 : decode cX11_init 181 = .ok (.getfield 7, 3) := by decide +kernel
theorem dX11_init_184 : decode cX11_init 184 = .ok (.bipush 25, 2) := by decide +kernel
theorem dX11_init_186 : decode cX11_init 186 = .ok (.ldc2_w 42, 3) := by decide +kernel
theorem dX11_init_189 : decode cX11_init 189 = .ok (.lastore, 1) := by decide +kernel
theorem dX11_init_190 : decode cX11_init 190 = .ok (.aload_n 0, 1) := by decide +kernel
theorem dX11_init_191 : decode cX11_init 191 = .ok (.getfield 7, 3) := by decide +kernel
theorem dX11_init_194 : decode cX11_init 194 = .ok (.bipush 27, 2) := by decide +kernel
theorem dX11_init_196 : decode cX11_init 196 = .ok (.ldc2_w 52, 3) := by decide +kernel
theorem dX11_init_199 : decode cX11_init 199 = .ok (.lastore, 1) := by decide +kernel
theorem dX11_init_200 : decode cX11_init 200 = .ok (.aload_n 0, 1) := by decide +kernel
theorem dX11_init_201 : decode cX11_init 201 = .ok (.getfield 7, 3) := by decide +kernel
theorem dX11_init_204 : decode cX11_init 204 = .ok (.bipush 29, 2) := by decide +kernel
theorem dX11_init_206 : decode cX11_init 206 = .ok (.ldc2_w 54, 3) := by decide +kernel
theorem dX11_init_209 : decode cX11_init 209 = .ok (.lastore, 1) := by decide +kernel
theorem dX11_init_210 : decode cX11_init 210 = .ok (.aload_n 0, 1) := by decide +kernel
theorem dX11_init_211 : decode cX11_init 211 = .ok (.getfield 7, 3) := by decide +kernel
theorem dX11_init_214 : decode cX11_init 214 = .ok (.bipush 30, 2) := by decide +kernel
theorem dX11_init_216 : decode cX11_init 216 = .ok (.ldc2_w 56, 3) := by decide +kernel
theorem dX11_init_219 : decode cX11_init 219 = .ok (.lastore, 1) := by decide +kernel
theorem dX11_init_220 : decode cX11_init 220 = .ok (.aload_n 0, 1) := by decide +kernel
theorem dX11_init_221 : decode cX11_init 221 = .ok (.getfield 7, 3) := by decide +kernel
theorem dX11_init_224 : decode cX11_init 224 = .ok (.bipush 31, 2) := by decide +kernel
theorem dX11_init_226 : decode cX11_init 226 = .ok (.ldc2_w 58, 3) := by decide +kernel
theorem dX11_init_229 : decode cX11_init 229 = .ok (.lastore, 1) := by decide +kernel
theorem dX11_init_230 : decode cX11_init 230 = .ok (.aload_n 0, 1) := by decide +kernel
theorem dX11_init_231 : decode cX11_init 231 = .ok (.getfield 7, 3) := by decide +kernel
theorem dX11_init_234 : decode cX11_init 234 = .ok (.bipush 97, 2) := by decide +kernel
theorem dX11_init_236 : decode cX11_init 236 = .ok (.ldc2_w 60, 3) := by decide +kernel
theorem dX11_init_239 : decode cX11_init 239 = .ok (.lastore, 1) := by decide +kernel
theorem dX11_init_240 : decode cX11_init 240 = .ok (.iconst 0, 1) := by decide +kernel
theorem dX11_init_241 : decode cX11_init 241 = .ok (.istore_n 1, 1) := by decide +kernel
theorem dX11_init_242 : decode cX11_init 242 = .ok (.iload_n 1, 1) := by decide +kernel
theorem dX11_init_243 : decode cX11_init 243 = .ok (.bipush 24, 2) := by decide +kernel
theorem dX11_init_245 : decode cX11_init 245 = .ok (.if_icmp .ge 51, 3) := by decide +kernel
theorem dX11_init_248 : decode cX11_init 248 = .ok (.iload_n 1, 1) := by decide +kernel
theorem dX11_init_249 : decode cX11_init 249 = .ok (.bipush 12, 2) := by decide +kernel
theorem dX11_init_251 : decode cX11_init 251 = .ok (.if_icmp .gt 7, 3) := by decide +kernel
theorem dX11_init_254 : decode cX11_init 254 = .ok (.iload_n 1, 1) := by decide +kernel
theorem dX11_init_255 : decode cX11_init 255 = .ok (.goto 7, 3) := by decide +kernel
theorem dX11_init_258 : decode cX11_init 258 = .ok (.bipush 24, 2) := by decide +kernel
theorem dX11_init_260 : decode cX11_init 260 = .ok (.iload_n 1, 1) := by decide +kernel
theorem dX11_init_261 : decode cX11_init 261 = .ok (.isub, 1) := by decide +kernel
theorem dX11_init_262 : decode cX11_init 262 = .ok (.istore_n 2, 1) := by decide +kernel
theorem dX11_init_263 : decode cX11_init 263 = .ok (.aload_n 0, 1) := by decide +kernel
theorem dX11_init_264 : decode cX11_init 264 = .ok (.getfield 27, 3) := by decide +kernel
theorem dX11_init_267 : decode cX11_init 267 = .ok (.iload_n 1, 1) := by decide +kernel
theorem dX11_init_268 : decode cX11_init 268 = .ok (.iload_n 2, 1) := by decide +kernel
theorem dX11_init_269 : decode cX11_init 269 = .ok (.bipush 6, 2) := by decide +kernel
theorem dX11_init_271 : decode cX11_init 271 = .ok (.if_icmp .gt 10, 3) := by decide +kernel
theorem dX11_init_274 : decode cX11_init 274 = .ok (.iload_n 2, 1) := by decide +kernel
theorem dX11_init_275 : decode cX11_init 275 = .ok (.invokestatic 62, 3) := by decide +kernel
theorem dX11_init_278 : decode cX11_init 278 = .ok (.goto 11, 3) := by decide +kernel
theorem dX11_init_281 : decode cX11_init 281 = .ok (.bipush 12, 2) := by decide +kernel
theorem dX11_init_283 : decode cX11_init 283 = .ok (.iload_n 2, 1) := by decide +kernel
theorem dX11_init_284 : decode cX11_init 284 = .ok (.isub, 1) := by decide +kernel
theorem dX11_init_285 : decode cX11_init 285 = .ok (.invokestatic 62, 3) := by decide +kernel
theorem dX11_init_288 : decode cX11_init 288 = .ok (.ineg, 1) := by decide +kernel
theorem dX11_init_289 : decode cX11_init 289 = .ok (.iastore, 1) := by decide +kernel
theorem dX11_init_290 : decode cX11_init 290 = .ok (.iinc 1 1, 3) := by decide +kernel
theorem dX11_init_293 : decode cX11_init 293 = .ok (.goto (-51), 3) := by decide +kernel
theorem dX11_init_296 : decode cX11_init 296 = .ok (.return_, 1) := by decide +kernel
theorem dX11_quarter_0 : decode cX11_quarter 0 = .ok (.iload_n 0, 1) := by decide +kernel
theorem dX11_quarter_1 : decode cX11_quarter 1 = .ok (.tableswitch 63 0 5 #[39, 43, 47, 51, 55, 59], 39) := by decide +kernel
theorem dX11_quarter_40 : decode cX11_quarter 40 = .ok (.sipush 4096, 3) := by decide +kernel
theorem dX11_quarter_43 : decode cX11_quarter 43 = .ok (.ireturn, 1) := by decide +kernel
theorem dX11_quarter_44 : decode cX11_quarter 44 = .ok (.sipush 3956, 3) := by decide +kernel
theorem dX11_quarter_47 : decode cX11_quarter 47 = .ok (.ireturn, 1) := by decide +kernel
theorem dX11_quarter_48 : decode cX11_quarter 48 = .ok (.sipush 3547, 3) := by decide +kernel
theorem dX11_quarter_51 : decode cX11_quarter 51 = .ok (.ireturn, 1) := by decide +kernel
theorem dX11_quarter_52 : decode cX11_quarter 52 = .ok (.sipush 2896, 3) := by decide +kernel
theorem dX11_quarter_55 : decode cX11_quarter 55 = .ok (.ireturn, 1) := by decide +kernel
theorem dX11_quarter_56 : decode cX11_quarter 56 = .ok (.sipush 2048, 3) := by decide +kernel
theorem dX11_quarter_59 : decode cX11_quarter 59 = .ok (.ireturn, 1) := by decide +kernel
theorem dX11_quarter_60 : decode cX11_quarter 60 = .ok (.sipush 1060, 3) := by decide +kernel
theorem dX11_quarter_63 : decode cX11_quarter 63 = .ok (.ireturn, 1) := by decide +kernel
theorem dX11_quarter_64 : decode cX11_quarter 64 = .ok (.iconst 0, 1) := by decide +kernel
theorem dX11_quarter_65 : decode cX11_quarter 65 = .ok (.ireturn, 1) := by decide +kernel
theorem dX11_in_0 : decode cX11_in 0 = .ok (.lload_n 0, 1) := by decide +kernel
theorem dX11_in_1 : decode cX11_in 1 = .ok (.lload_n 2, 1) := by decide +kernel
theorem dX11_in_2 : decode cX11_in 2 = .ok (.lcmp, 1) := by decide +kernel
theorem dX11_in_3 : decode cX11_in 3 = .ok (.ifCond .lt 14, 3) := by decide +kernel
theorem dX11_in_6 : decode cX11_in 6 = .ok (.lload_n 0, 1) := by decide +kernel
theorem dX11_in_7 : decode cX11_in 7 = .ok (.lload 4, 2) := by decide +kernel
theorem dX11_in_9 : decode cX11_in 9 = .ok (.lcmp, 1) := by decide +kernel
theorem dX11_in_10 : decode cX11_in 10 = .ok (.ifCond .gt 7, 3) := by decide +kernel
theorem dX11_in_13 : decode cX11_in 13 = .ok (.iconst 1, 1) := by decide +kernel
theorem dX11_in_14 : decode cX11_in 14 = .ok (.goto 4, 3) := by decide +kernel
theorem dX11_in_17 : decode cX11_in 17 = .ok (.iconst 0, 1) := by decide +kernel
theorem dX11_in_18 : decode cX11_in 18 = .ok (.ireturn, 1) := by decide +kernel
theorem dX11_size_0 : decode cX11_size 0 = .ok (.lload_n 0, 1) := by decide +kernel
theorem dX11_size_1 : decode cX11_size 1 = .ok (.lconst 0, 1) := by decide +kernel
theorem dX11_size_2 : decode cX11_size 2 = .ok (.lcmp, 1) := by decide +kernel
theorem dX11_size_3 : decode cX11_size 3 = .ok (.ifCond .ge 8, 3) := by decide +kernel
theorem dX11_size_6 : decode cX11_size 6 = .ok (.lload_n 0, 1) := by decide +kernel
theorem dX11_size_7 : decode cX11_size 7 = .ok (.lneg, 1) := by decide +kernel
theorem dX11_size_8 : decode cX11_size 8 = .ok (.goto 4, 3) := by decide +kernel
theorem dX11_size_11 : decode cX11_size 11 = .ok (.lload_n 0, 1) := by decide +kernel
theorem dX11_size_12 : decode cX11_size 12 = .ok (.lreturn, 1) := by decide +kernel
theorem dX11_sine_0 : decode cX11_sine 0 = .ok (.aload_n 0, 1) := by decide +kernel
theorem dX11_sine_1 : decode cX11_sine 1 = .ok (.getfield 27, 3) := by decide +kernel
theorem dX11_sine_4 : decode cX11_sine 4 = .ok (.lload_n 1, 1) := by decide +kernel
theorem dX11_sine_5 : decode cX11_sine 5 = .ok (.ldc2_w 66, 3) := by decide +kernel
theorem dX11_sine_8 : decode cX11_sine 8 = .ok (.ladd, 1) := by decide +kernel
theorem dX11_sine_9 : decode cX11_sine 9 = .ok (.ldc2_w 52, 3) := by decide +kernel
theorem dX11_sine_12 : decode cX11_sine 12 = .ok (.lrem, 1) := by decide +kernel
theorem dX11_sine_13 : decode cX11_sine 13 = .ok (.l2i, 1) := by decide +kernel
theorem dX11_sine_14 : decode cX11_sine 14 = .ok (.iaload, 1) := by decide +kernel
theorem dX11_sine_15 : decode cX11_sine 15 = .ok (.i2l, 1) := by decide +kernel
theorem dX11_sine_16 : decode cX11_sine 16 = .ok (.lreturn, 1) := by decide +kernel
theorem dX11_putAside_0 : decode cX11_putAside 0 = .ok (.iconst 0, 1) := by decide +kernel
theorem dX11_putAside_1 : decode cX11_putAside 1 = .ok (.istore_n 1, 1) := by decide +kernel
theorem dX11_putAside_2 : decode cX11_putAside 2 = .ok (.iload_n 1, 1) := by decide +kernel
theorem dX11_putAside_3 : decode cX11_putAside 3 = .ok (.sipush 310, 3) := by decide +kernel
theorem dX11_putAside_6 : decode cX11_putAside 6 = .ok (.if_icmp .ge 21, 3) := by decide +kernel
theorem dX11_putAside_9 : decode cX11_putAside 9 = .ok (.aload_n 0, 1) := by decide +kernel
theorem dX11_putAside_10 : decode cX11_putAside 10 = .ok (.getfield 13, 3) := by decide +kernel
theorem dX11_putAside_13 : decode cX11_putAside 13 = .ok (.iload_n 1, 1) := by decide +kernel
theorem dX11_putAside_14 : decode cX11_putAside 14 = .ok (.aload_n 0, 1) := by decide +kernel
theorem dX11_putAside_15 : decode cX11_putAside 15 = .ok (.getfield 7, 3) := by decide +kernel
theorem dX11_putAside_18 : decode cX11_putAside 18 = .ok (.iload_n 1, 1) := by decide +kernel
theorem dX11_putAside_19 : decode cX11_putAside 19 = .ok (.laload, 1) := by decide +kernel
theorem dX11_putAside_20 : decode cX11_putAside 20 = .ok (.lastore, 1) := by decide +kernel
theorem dX11_putAside_21 : decode cX11_putAside 21 = .ok (.iinc 1 1, 3) := by decide +kernel
theorem dX11_putAside_24 : decode cX11_putAside 24 = .ok (.goto (-22), 3) := by decide +kernel
theorem dX11_putAside_27 : decode cX11_putAside 27 = .ok (.return_, 1) := by decide +kernel
theorem dX11_putBack_0 : decode cX11_putBack 0 = .ok (.iconst 0, 1) := by decide +kernel
theorem dX11_putBack_1 : decode cX11_putBack 1 = .ok (.istore_n 1, 1) := by decide +kernel
theorem dX11_putBack_2 : decode cX11_putBack 2 = .ok (.iload_n 1, 1) := by decide +kernel
theorem dX11_putBack_3 : decode cX11_putBack 3 = .ok (.sipush 310, 3) := by decide +kernel
theorem dX11_putBack_6 : decode cX11_putBack 6 = .ok (.if_icmp .ge 21, 3) := by decide +kernel
theorem dX11_putBack_9 : decode cX11_putBack 9 = .ok (.aload_n 0, 1) := by decide +kernel
theorem dX11_putBack_10 : decode cX11_putBack 10 = .ok (.getfield 7, 3) := by decide +kernel
theorem dX11_putBack_13 : decode cX11_putBack 13 = .ok (.iload_n 1, 1) := by decide +kernel
theorem dX11_putBack_14 : decode cX11_putBack 14 = .ok (.aload_n 0, 1) := by decide +kernel
theorem dX11_putBack_15 : decode cX11_putBack 15 = .ok (.getfield 13, 3) := by decide +kernel
theorem dX11_putBack_18 : decode cX11_putBack 18 = .ok (.iload_n 1, 1) := by decide +kernel
theorem dX11_putBack_19 : decode cX11_putBack 19 = .ok (.laload, 1) := by decide +kernel
theorem dX11_putBack_20 : decode cX11_putBack 20 = .ok (.lastore, 1) := by decide +kernel
theorem dX11_putBack_21 : decode cX11_putBack 21 = .ok (.iinc 1 1, 3) := by decide +kernel
theorem dX11_putBack_24 : decode cX11_putBack 24 = .ok (.goto (-22), 3) := by decide +kernel
theorem dX11_putBack_27 : decode cX11_putBack 27 = .ok (.return_, 1) := by decide +kernel
set_option maxRecDepth 20000 in
theorem ggX11_isPolygon_X11_in : GoodIn wsX11_isPolygon wsX11_in := goodIn_r _ [5] (by decide +kernel) (by decide +kernel)
set_option maxRecDepth 20000 in
theorem gX11_isPolygon_X11_in : GoodIn wsX11_isPolygon (va_wsS RX11 68 yX11_in wsX11_in) := goodIn_app (goodIn_of _ (by decide +kernel)) ggX11_isPolygon_X11_in
theorem dX11_isPolygon_0 : decode cX11_isPolygon 0 = .ok (.iload_n 0, 1) := by decide +kernel
theorem dX11_isPolygon_1 : decode cX11_isPolygon 1 = .ok (.i2l, 1) := by decide +kernel
theorem dX11_isPolygon_2 : decode cX11_isPolygon 2 = .ok (.lconst 0, 1) := by decide +kernel
theorem dX11_isPolygon_3 : decode cX11_isPolygon 3 = .ok (.ldc2_w 54, 3) := by decide +kernel
theorem dX11_isPolygon_6 : decode cX11_isPolygon 6 = .ok (.invokestatic 68, 3) := by decide +kernel
theorem dX11_isPolygon_9 : decode cX11_isPolygon 9 = .ok (.ireturn, 1) := by decide +kernel
set_option maxRecDepth 20000 in
theorem ggX11_isZone_X11_in : GoodIn wsX11_isZone wsX11_in := goodIn_r _ [5] (by decide +kernel) (by decide +kernel)
set_option maxRecDepth 20000 in
theorem gX11_isZone_X11_in : GoodIn wsX11_isZone (va_wsS RX11 68 yX11_in wsX11_in) := goodIn_app (goodIn_of _ (by decide +kernel)) ggX11_isZone_X11_in
theorem dX11_isZone_0 : decode cX11_isZone 0 = .ok (.iload_n 0, 1) := by decide +kernel
theorem dX11_isZone_1 : decode cX11_isZone 1 = .ok (.i2l, 1) := by decide +kernel
theorem dX11_isZone_2 : decode cX11_isZone 2 = .ok (.lconst 0, 1) := by decide +kernel
theorem dX11_isZone_3 : decode cX11_isZone 3 = .ok (.ldc2_w 72, 3) := by decide +kernel
theorem dX11_isZone_6 : decode cX11_isZone 6 = .ok (.invokestatic 68, 3) := by decide +kernel
theorem dX11_isZone_9 : decode cX11_isZone 9 = .ok (.ireturn, 1) := by decide +kernel
theorem dX11_corners_0 : decode cX11_corners 0 = .ok (.aload_n 0, 1) := by decide +kernel
theorem dX11_corners_1 : decode cX11_corners 1 = .ok (.getfield 7, 3) := by decide +kernel
theorem dX11_corners_4 : decode cX11_corners 4 = .ok (.sipush 225, 3) := by decide +kernel
theorem dX11_corners_7 : decode cX11_corners 7 = .ok (.bipush 17, 2) := by decide +kernel
theorem dX11_corners_9 : decode cX11_corners 9 = .ok (.iload_n 1, 1) := by decide +kernel
theorem dX11_corners_10 : decode cX11_corners 10 = .ok (.imul, 1) := by decide +kernel
theorem dX11_corners_11 : decode cX11_corners 11 = .ok (.iadd, 1) := by decide +kernel
theorem dX11_corners_12 : decode cX11_corners 12 = .ok (.laload, 1) := by decide +kernel
theorem dX11_corners_13 : decode cX11_corners 13 = .ok (.l2i, 1) := by decide +kernel
theorem dX11_corners_14 : decode cX11_corners 14 = .ok (.ireturn, 1) := by decide +kernel
theorem dX11_cornerAt_0 : decode cX11_cornerAt 0 = .ok (.sipush 225, 3) := by decide +kernel
theorem dX11_cornerAt_3 : decode cX11_cornerAt 3 = .ok (.bipush 17, 2) := by decide +kernel
theorem dX11_cornerAt_5 : decode cX11_cornerAt 5 = .ok (.iload_n 0, 1) := by decide +kernel
theorem dX11_cornerAt_6 : decode cX11_cornerAt 6 = .ok (.imul, 1) := by decide +kernel
theorem dX11_cornerAt_7 : decode cX11_cornerAt 7 = .ok (.iadd, 1) := by decide +kernel
theorem dX11_cornerAt_8 : decode cX11_cornerAt 8 = .ok (.iconst 1, 1) := by decide +kernel
theorem dX11_cornerAt_9 : decode cX11_cornerAt 9 = .ok (.iadd, 1) := by decide +kernel
theorem dX11_cornerAt_10 : decode cX11_cornerAt 10 = .ok (.iconst 2, 1) := by decide +kernel
theorem dX11_cornerAt_11 : decode cX11_cornerAt 11 = .ok (.iload_n 1, 1) := by decide +kernel
theorem dX11_cornerAt_12 : decode cX11_cornerAt 12 = .ok (.imul, 1) := by decide +kernel
theorem dX11_cornerAt_13 : decode cX11_cornerAt 13 = .ok (.iadd, 1) := by decide +kernel
theorem dX11_cornerAt_14 : decode cX11_cornerAt 14 = .ok (.iload_n 2, 1) := by decide +kernel
theorem dX11_cornerAt_15 : decode cX11_cornerAt 15 = .ok (.iadd, 1) := by decide +kernel
theorem dX11_cornerAt_16 : decode cX11_cornerAt 16 = .ok (.ireturn, 1) := by decide +kernel
set_option maxRecDepth 20000 in
theorem ggX11_coordinate_X11_corners : GoodIn wsX11_coordinate wsX11_corners := goodIn_r _ [6, 1, 10, 11, 12, 13, 14, 15, 16, 17, 18, 19, 20, 21, 22, 23, 24, 25, 26, 27, 28, 29] (by decide +kernel) (by decide +kernel)
set_option maxRecDepth 20000 in
theorem gX11_coordinate_X11_corners : GoodIn wsX11_coordinate (wsV RX11 74 RX11 yX11_corners wsX11_corners) := goodIn_app (goodIn_of _ (by decide +kernel)) ggX11_coordinate_X11_corners
set_option maxRecDepth 20000 in
theorem ggX11_coordinate_X11_cornerAt : GoodIn wsX11_coordinate wsX11_cornerAt := goodIn_r _ [9] (by decide +kernel) (by decide +kernel)
set_option maxRecDepth 20000 in
theorem gX11_coordinate_X11_cornerAt : GoodIn wsX11_coordinate (va_wsS RX11 77 yX11_cornerAt wsX11_cornerAt) := goodIn_app (goodIn_of _ (by decide +kernel)) ggX11_coordinate_X11_cornerAt
theorem dX11_coordinate_0 : decode cX11_coordinate 0 = .ok (.aload_n 0, 1) := by decide +kernel
theorem dX11_coordinate_1 : decode cX11_coordinate 1 = .ok (.getfield 7, 3) := by decide +kernel
theorem dX11_coordinate_4 : decode cX11_coordinate 4 = .ok (.iload_n 1, 1) := by decide +kernel
theorem dX11_coordinate_5 : decode cX11_coordinate 5 = .ok (.iload_n 2, 1) := by decide +kernel
theorem dX11_coordinate_6 : decode cX11_coordinate 6 = .ok (.aload_n 0, 1) := by decide +kernel
theorem dX11_coordinate_7 : decode cX11_coordinate 7 = .ok (.iload_n 1, 1) := by decide +kernel
theorem dX11_coordinate_8 : decode cX11_coordinate 8 = .ok (.invokevirtual 74, 3) := by decide +kernel
theorem dX11_coordinate_11 : decode cX11_coordinate 11 = .ok (.irem, 1) := by decide +kernel
theorem dX11_coordinate_12 : decode cX11_coordinate 12 = .ok (.iload_n 3, 1) := by decide +kernel
theorem dX11_coordinate_13 : decode cX11_coordinate 13 = .ok (.invokestatic 77, 3) := by decide +kernel
theorem dX11_coordinate_16 : decode cX11_coordinate 16 = .ok (.laload, 1) := by decide +kernel
theorem dX11_coordinate_17 : decode cX11_coordinate 17 = .ok (.lreturn, 1) := by decide +kernel
set_option maxRecDepth 20000 in
theorem ggX11_append_X11_corners : GoodIn wsX11_append wsX11_corners := goodIn_r _ [6, 1, 10, 11, 12, 13, 14, 15, 16, 17, 18, 19, 20, 21, 22, 23, 24, 25, 26, 27, 28, 29] (by decide +kernel) (by decide +kernel)
set_option maxRecDepth 20000 in
theorem gX11_append_X11_corners : GoodIn wsX11_append (wsV RX11 74 RX11 yX11_corners wsX11_corners) := goodIn_app (goodIn_of _ (by decide +kernel)) ggX11_append_X11_corners
set_option maxRecDepth 20000 in
theorem ggX11_append_X11_cornerAt : GoodIn wsX11_append wsX11_cornerAt := goodIn_r _ [9] (by decide +kernel) (by decide +kernel)
set_option maxRecDepth 20000 in
theorem gX11_append_X11_cornerAt : GoodIn wsX11_append (va_wsS RX11 77 yX11_cornerAt wsX11_cornerAt) := goodIn_app (goodIn_of _ (by decide +kernel)) ggX11_append_X11_cornerAt
theorem dX11_append_0 : decode cX11_append 0 = .ok (.aload_n 0, 1) := by decide +kernel
theorem dX11_append_1 : decode cX11_append 1 = .ok (.iload_n 1, 1) := by decide +kernel
theorem dX11_append_2 : decode cX11_append 2 = .ok (.invokevirtual 74, 3) := by decide +kernel
theorem dX11_append_5 : decode cX11_append 5 = .ok (.istore 4, 2) := by decide +kernel
theorem dX11_append_7 : decode cX11_append 7 = .ok (.aload_n 0, 1) := by decide +kernel
theorem dX11_append_8 : decode cX11_append 8 = .ok (.getfield 7, 3) := by decide +kernel
theorem dX11_append_11 : decode cX11_append 11 = .ok (.iload_n 1, 1) := by decide +kernel
theorem dX11_append_12 : decode cX11_append 12 = .ok (.iload 4, 2) := by decide +kernel
theorem dX11_append_14 : decode cX11_append 14 = .ok (.iconst 0, 1) := by decide +kernel
theorem dX11_append_15 : decode cX11_append 15 = .ok (.invokestatic 77, 3) := by decide +kernel
theorem dX11_append_18 : decode cX11_append 18 = .ok (.iload_n 2, 1) := by decide +kernel
theorem dX11_append_19 : decode cX11_append 19 = .ok (.i2l, 1) := by decide +kernel
theorem dX11_append_20 : decode cX11_append 20 = .ok (.lastore, 1) := by decide +kernel
theorem dX11_append_21 : decode cX11_append 21 = .ok (.aload_n 0, 1) := by decide +kernel
theorem dX11_append_22 : decode cX11_append 22 = .ok (.getfield 7, 3) := by decide +kernel
theorem dX11_append_25 : decode cX11_append 25 = .ok (.iload_n 1, 1) := by decide +kernel
theorem dX11_append_26 : decode cX11_append 26 = .ok (.iload 4, 2) := by decide +kernel
theorem dX11_append_28 : decode cX11_append 28 = .ok (.iconst 1, 1) := by decide +kernel
theorem dX11_append_29 : decode cX11_append 29 = .ok (.invokestatic 77, 3) := by decide +kernel
theorem dX11_append_32 : decode cX11_append 32 = .ok (.iload_n 3, 1) := by decide +kernel
theorem dX11_append_33 : decode cX11_append 33 = .ok (.i2l, 1) := by decide +kernel
theorem dX11_append_34 : decode cX11_append 34 = .ok (.lastore, 1) := by decide +kernel
theorem dX11_append_35 : decode cX11_append 35 = .ok (.aload_n 0, 1) := by decide +kernel
theorem dX11_append_36 : decode cX11_append 36 = .ok (.getfield 7, 3) := by decide +kernel
theorem dX11_append_39 : decode cX11_append 39 = .ok (.sipush 225, 3) := by decide +kernel
theorem dX11_append_42 : decode cX11_append 42 = .ok (.bipush 17, 2) := by decide +kernel
theorem dX11_append_44 : decode cX11_append 44 = .ok (.iload_n 1, 1) := by decide +kernel
theorem dX11_append_45 : decode cX11_append 45 = .ok (.imul, 1) := by decide +kernel
theorem dX11_append_46 : decode cX11_append 46 = .ok (.iadd, 1) := by decide +kernel
theorem dX11_append_47 : decode cX11_append 47 = .ok (.dup2, 1) := by decide +kernel
theorem dX11_append_48 : decode cX11_append 48 = .ok (.laload, 1) := by decide +kernel
theorem dX11_append_49 : decode cX11_append 49 = .ok (.lconst 1, 1) := by decide +kernel
theorem dX11_append_50 : decode cX11_append 50 = .ok (.ladd, 1) := by decide +kernel
theorem dX11_append_51 : decode cX11_append 51 = .ok (.lastore, 1) := by decide +kernel
theorem dX11_append_52 : decode cX11_append 52 = .ok (.return_, 1) := by decide +kernel
set_option maxRecDepth 20000 in
theorem ggX11_corner_X11_isPolygon : GoodIn wsX11_corner wsX11_isPolygon := goodIn_r _ [6, 7, 8, 9, 5, 10] (by decide +kernel) (by decide +kernel)
set_option maxRecDepth 20000 in
theorem gX11_corner_X11_isPolygon : GoodIn wsX11_corner (va_wsS RX11 81 yX11_isPolygon wsX11_isPolygon) := goodIn_app (goodIn_of _ (by decide +kernel)) ggX11_corner_X11_isPolygon
set_option maxRecDepth 20000 in
theorem ggX11_corner_X11_in : GoodIn wsX11_corner wsX11_in := goodIn_r _ [10] (by decide +kernel) (by decide +kernel)
set_option maxRecDepth 20000 in
theorem gX11_corner_X11_in : GoodIn wsX11_corner (va_wsS RX11 68 yX11_in wsX11_in) := goodIn_app (goodIn_of _ (by decide +kernel)) ggX11_corner_X11_in
set_option maxRecDepth 20000 in
theorem ggX11_corner_X11_corners : GoodIn wsX11_corner wsX11_corners := goodIn_r _ [14, 15, 23, 24, 25, 26, 27, 28, 29, 30, 31, 32, 33, 34, 35, 36, 37, 38, 39, 40, 41, 42] (by decide +kernel) (by decide +kernel)
set_option maxRecDepth 20000 in
theorem gX11_corner_X11_corners : GoodIn wsX11_corner (wsV RX11 74 RX11 yX11_corners wsX11_corners) := goodIn_app (goodIn_of _ (by decide +kernel)) ggX11_corner_X11_corners
set_option maxRecDepth 20000 in
theorem ggX11_corner_X11_append : GoodIn wsX11_corner wsX11_append := goodIn_r _ [19, 15, 11, 12, 13, 5, 14, 20, 21, 22, 23, 24, 25, 26, 27, 28, 29, 30, 31, 32, 33, 34, 35, 36, 37, 38, 39, 40, 41, 42] (by decide +kernel) (by decide +kernel)
set_option maxRecDepth 20000 in
theorem gX11_corner_X11_append : GoodIn wsX11_corner (wsV RX11 87 RX11 yX11_append wsX11_append) := goodIn_app (goodIn_of _ (by decide +kernel)) ggX11_corner_X11_append
theorem dX11_corner_0 : decode cX11_corner 0 = .ok (.iload_n 1, 1) := by decide +kernel
theorem dX11_corner_1 : decode cX11_corner 1 = .ok (.invokestatic 81, 3) := by decide +kernel
theorem dX11_corner_4 : decode cX11_corner 4 = .ok (.ifCond .ne 5, 3) := by decide +kernel
theorem dX11_corner_7 : decode cX11_corner 7 = .ok (.iconst (-1), 1) := by decide +kernel
theorem dX11_corner_8 : decode cX11_corner 8 = .ok (.ireturn, 1) := by decide +kernel
theorem dX11_corner_9 : decode cX11_corner 9 = .ok (.iload_n 2, 1) := by decide +kernel
theorem dX11_corner_10 : decode cX11_corner 10 = .ok (.i2l, 1) := by decide +kernel
theorem dX11_corner_11 : decode cX11_corner 11 = .ok (.ldc2_w 85, 3) := by decide +kernel
theorem dX11_corner_14 : decode cX11_corner 14 = .ok (.ldc2_w 46, 3) := by decide +kernel
theorem dX11_corner_17 : decode cX11_corner 17 = .ok (.invokestatic 68, 3) := by decide +kernel
theorem dX11_corner_20 : decode cX11_corner 20 = .ok (.ifCond .eq 17, 3) := by decide +kernel
theorem dX11_corner_23 : decode cX11_corner 23 = .ok (.iload_n 3, 1) := by decide +kernel
theorem dX11_corner_24 : decode cX11_corner 24 = .ok (.i2l, 1) := by decide +kernel
theorem dX11_corner_25 : decode cX11_corner 25 = .ok (.ldc2_w 85, 3) := by decide +kernel
theorem dX11_corner_28 : decode cX11_corner 28 = .ok (.ldc2_w 46, 3) := by decide +kernel
theorem dX11_corner_31 : decode cX11_corner 31 = .ok (.invokestatic 68, 3) := by decide +kernel
theorem dX11_corner_34 : decode cX11_corner 34 = .ok (.ifCond .ne 6, 3) := by decide +kernel
theorem dX11_corner_37 : decode cX11_corner 37 = .ok (.bipush (-2), 2) := by decide +kernel
theorem dX11_corner_39 : decode cX11_corner 39 = .ok (.ireturn, 1) := by decide +kernel
theorem dX11_corner_40 : decode cX11_corner 40 = .ok (.aload_n 0, 1) := by decide +kernel
theorem dX11_corner_41 : decode cX11_corner 41 = .ok (.iload_n 1, 1) := by decide +kernel
theorem dX11_corner_42 : decode cX11_corner 42 = .ok (.invokevirtual 74, 3) := by decide +kernel
theorem dX11_corner_45 : decode cX11_corner 45 = .ok (.bipush 8, 2) := by decide +kernel
theorem dX11_corner_47 : decode cX11_corner 47 = .ok (.if_icmp .ne 6, 3) := by decide +kernel
theorem dX11_corner_50 : decode cX11_corner 50 = .ok (.bipush (-4), 2) := by decide +kernel
theorem dX11_corner_52 : decode cX11_corner 52 = .ok (.ireturn, 1) := by decide +kernel
theorem dX11_corner_53 : decode cX11_corner 53 = .ok (.aload_n 0, 1) := by decide +kernel
theorem dX11_corner_54 : decode cX11_corner 54 = .ok (.iload_n 1, 1) := by decide +kernel
theorem dX11_corner_55 : decode cX11_corner 55 = .ok (.iload_n 2, 1) := by decide +kernel
theorem dX11_corner_56 : decode cX11_corner 56 = .ok (.iload_n 3, 1) := by decide +kernel
theorem dX11_corner_57 : decode cX11_corner 57 = .ok (.invokevirtual 87, 3) := by decide +kernel
theorem dX11_corner_60 : decode cX11_corner 60 = .ok (.aload_n 0, 1) := by decide +kernel
theorem dX11_corner_61 : decode cX11_corner 61 = .ok (.iload_n 1, 1) := by decide +kernel
theorem dX11_corner_62 : decode cX11_corner 62 = .ok (.invokevirtual 74, 3) := by decide +kernel
theorem dX11_corner_65 : decode cX11_corner 65 = .ok (.ireturn, 1) := by decide +kernel
set_option maxRecDepth 20000 in
theorem ggX11_clear_X11_isPolygon : GoodIn wsX11_clear wsX11_isPolygon := goodIn_r _ [5, 6, 7, 8, 4, 9] (by decide +kernel) (by decide +kernel)
set_option maxRecDepth 20000 in
theorem gX11_clear_X11_isPolygon : GoodIn wsX11_clear (va_wsS RX11 81 yX11_isPolygon wsX11_isPolygon) := goodIn_app (goodIn_of _ (by decide +kernel)) ggX11_clear_X11_isPolygon
set_option maxRecDepth 20000 in
theorem ggX11_clear_X11_corners : GoodIn wsX11_clear wsX11_corners := goodIn_r _ [13, 1, 14, 15, 16, 17, 18, 19, 20, 21, 22, 23, 24, 25, 26, 27, 28, 29, 30, 31, 32, 33] (by decide +kernel) (by decide +kernel)
set_option maxRecDepth 20000 in
theorem gX11_clear_X11_corners : GoodIn wsX11_clear (wsV RX11 74 RX11 yX11_corners wsX11_corners) := goodIn_app (goodIn_of _ (by decide +kernel)) ggX11_clear_X11_corners
theorem dX11_clear_0 : decode cX11_clear 0 = .ok (.iload_n 1, 1) := by decide +kernel
theorem dX11_clear_1 : decode cX11_clear 1 = .ok (.invokestatic 81, 3) := by decide +kernel
theorem dX11_clear_4 : decode cX11_clear 4 = .ok (.ifCond .ne 5, 3) := by decide +kernel
theorem dX11_clear_7 : decode cX11_clear 7 = .ok (.iconst (-1), 1) := by decide +kernel
theorem dX11_clear_8 : decode cX11_clear 8 = .ok (.ireturn, 1) := by decide +kernel
theorem dX11_clear_9 : decode cX11_clear 9 = .ok (.aload_n 0, 1) := by decide +kernel
theorem dX11_clear_10 : decode cX11_clear 10 = .ok (.iload_n 1, 1) := by decide +kernel
theorem dX11_clear_11 : decode cX11_clear 11 = .ok (.invokevirtual 74, 3) := by decide +kernel
theorem dX11_clear_14 : decode cX11_clear 14 = .ok (.istore_n 2, 1) := by decide +kernel
theorem dX11_clear_15 : decode cX11_clear 15 = .ok (.aload_n 0, 1) := by decide +kernel
theorem dX11_clear_16 : decode cX11_clear 16 = .ok (.getfield 7, 3) := by decide +kernel
theorem dX11_clear_19 : decode cX11_clear 19 = .ok (.sipush 225, 3) := by decide +kernel
theorem dX11_clear_22 : decode cX11_clear 22 = .ok (.bipush 17, 2) := by decide +kernel
theorem dX11_clear_24 : decode cX11_clear 24 = .ok (.iload_n 1, 1) := by decide +kernel
theorem dX11_clear_25 : decode cX11_clear 25 = .ok (.imul, 1) := by decide +kernel
theorem dX11_clear_26 : decode cX11_clear 26 = .ok (.iadd, 1) := by decide +kernel
theorem dX11_clear_27 : decode cX11_clear 27 = .ok (.lconst 0, 1) := by decide +kernel
theorem dX11_clear_28 : decode cX11_clear 28 = .ok (.lastore, 1) := by decide +kernel
theorem dX11_clear_29 : decode cX11_clear 29 = .ok (.iload_n 2, 1) := by decide +kernel
theorem dX11_clear_30 : decode cX11_clear 30 = .ok (.ireturn, 1) := by decide +kernel
set_option maxRecDepth 20000 in
theorem ggX11_at_X11_isPolygon : GoodIn wsX11_at wsX11_isPolygon := goodIn_r _ [6, 7, 8, 9, 5, 10] (by decide +kernel) (by decide +kernel)
set_option maxRecDepth 20000 in
theorem gX11_at_X11_isPolygon : GoodIn wsX11_at (va_wsS RX11 81 yX11_isPolygon wsX11_isPolygon) := goodIn_app (goodIn_of _ (by decide +kernel)) ggX11_at_X11_isPolygon
set_option maxRecDepth 20000 in
theorem ggX11_at_X11_corners : GoodIn wsX11_at wsX11_corners := goodIn_r _ [14, 1, 18, 19, 20, 21, 22, 23, 24, 25, 26, 27, 28, 29, 30, 31, 32, 33, 34, 35, 36, 37] (by decide +kernel) (by decide +kernel)
set_option maxRecDepth 20000 in
theorem gX11_at_X11_corners : GoodIn wsX11_at (wsV RX11 74 RX11 yX11_corners wsX11_corners) := goodIn_app (goodIn_of _ (by decide +kernel)) ggX11_at_X11_corners
set_option maxRecDepth 20000 in
theorem ggX11_at_X11_in : GoodIn wsX11_at wsX11_in := goodIn_r _ [10] (by decide +kernel) (by decide +kernel)
set_option maxRecDepth 20000 in
theorem gX11_at_X11_in : GoodIn wsX11_at (va_wsS RX11 68 yX11_in wsX11_in) := goodIn_app (goodIn_of _ (by decide +kernel)) ggX11_at_X11_in
set_option maxRecDepth 20000 in
theorem ggX11_at_X11_cornerAt : GoodIn wsX11_at wsX11_cornerAt := goodIn_r _ [17] (by decide +kernel) (by decide +kernel)
set_option maxRecDepth 20000 in
theorem gX11_at_X11_cornerAt : GoodIn wsX11_at (va_wsS RX11 77 yX11_cornerAt wsX11_cornerAt) := goodIn_app (goodIn_of _ (by decide +kernel)) ggX11_at_X11_cornerAt
theorem dX11_at_0 : decode cX11_at 0 = .ok (.iload_n 1, 1) := by decide +kernel
theorem dX11_at_1 : decode cX11_at 1 = .ok (.invokestatic 81, 3) := by decide +kernel
theorem dX11_at_4 : decode cX11_at 4 = .ok (.ifCond .eq 20, 3) := by decide +kernel
theorem dX11_at_7 : decode cX11_at 7 = .ok (.iload_n 2, 1) := by decide +kernel
theorem dX11_at_8 : decode cX11_at 8 = .ok (.i2l, 1) := by decide +kernel
theorem dX11_at_9 : decode cX11_at 9 = .ok (.lconst 0, 1) := by decide +kernel
theorem dX11_at_10 : decode cX11_at 10 = .ok (.aload_n 0, 1) := by decide +kernel
theorem dX11_at_11 : decode cX11_at 11 = .ok (.iload_n 1, 1) := by decide +kernel
theorem dX11_at_12 : decode cX11_at 12 = .ok (.invokevirtual 74, 3) := by decide +kernel
theorem dX11_at_15 : decode cX11_at 15 = .ok (.iconst 1, 1) := by decide +kernel
theorem dX11_at_16 : decode cX11_at 16 = .ok (.isub, 1) := by decide +kernel
theorem dX11_at_17 : decode cX11_at 17 = .ok (.i2l, 1) := by decide +kernel
theorem dX11_at_18 : decode cX11_at 18 = .ok (.invokestatic 68, 3) := by decide +kernel
theorem dX11_at_21 : decode cX11_at 21 = .ok (.ifCond .ne 5, 3) := by decide +kernel
theorem dX11_at_24 : decode cX11_at 24 = .ok (.iconst (-1), 1) := by decide +kernel
theorem dX11_at_25 : decode cX11_at 25 = .ok (.ireturn, 1) := by decide +kernel
theorem dX11_at_26 : decode cX11_at 26 = .ok (.iload_n 3, 1) := by decide +kernel
theorem dX11_at_27 : decode cX11_at 27 = .ok (.i2l, 1) := by decide +kernel
theorem dX11_at_28 : decode cX11_at 28 = .ok (.lconst 0, 1) := by decide +kernel
theorem dX11_at_29 : decode cX11_at 29 = .ok (.lconst 1, 1) := by decide +kernel
theorem dX11_at_30 : decode cX11_at 30 = .ok (.invokestatic 68, 3) := by decide +kernel
theorem dX11_at_33 : decode cX11_at 33 = .ok (.ifCond .eq 21, 3) := by decide +kernel
theorem dX11_at_36 : decode cX11_at 36 = .ok (.aload_n 0, 1) := by decide +kernel
theorem dX11_at_37 : decode cX11_at 37 = .ok (.getfield 7, 3) := by decide +kernel
theorem dX11_at_40 : decode cX11_at 40 = .ok (.iload_n 1, 1) := by decide +kernel
theorem dX11_at_41 : decode cX11_at 41 = .ok (.iload_n 2, 1) := by decide +kernel
theorem dX11_at_42 : decode cX11_at 42 = .ok (.iload_n 3, 1) := by decide +kernel
theorem dX11_at_43 : decode cX11_at 43 = .ok (.invokestatic 77, 3) := by decide +kernel
theorem dX11_at_46 : decode cX11_at 46 = .ok (.laload, 1) := by decide +kernel
theorem dX11_at_47 : decode cX11_at 47 = .ok (.l2i, 1) := by decide +kernel
theorem dX11_at_48 : decode cX11_at 48 = .ok (.ldc 91, 2) := by decide +kernel
theorem dX11_at_50 : decode cX11_at 50 = .ok (.iadd, 1) := by decide +kernel
theorem dX11_at_51 : decode cX11_at 51 = .ok (.goto 5, 3) := by decide +kernel
theorem dX11_at_54 : decode cX11_at 54 = .ok (.bipush (-2), 2) := by decide +kernel
theorem dX11_at_56 : decode cX11_at 56 = .ok (.ireturn, 1) := by decide +kernel
set_option maxRecDepth 20000 in
theorem ggX11_turnsLeft_X11_coordinate : GoodIn wsX11_turnsLeft wsX11_coordinate := goodIn_r _ [5, 6, 7, 8, 9, 4, 10, 11, 12, 13, 14, 15, 16, 17, 18, 19, 20, 21, 22, 23, 24, 25, 26, 27, 28, 29, 30, 31, 32, 33] (by decide +kernel) (by decide +kernel)
set_option maxRecDepth 20000 in
theorem gX11_turnsLeft_X11_coordinate : GoodIn wsX11_turnsLeft (wsV RX11 92 RX11 yX11_coordinate wsX11_coordinate) := goodIn_app (goodIn_of _ (by decide +kernel)) ggX11_turnsLeft_X11_coordinate
theorem dX11_turnsLeft_0 : decode cX11_turnsLeft 0 = .ok (.aload_n 0, 1) := by decide +kernel
theorem dX11_turnsLeft_1 : decode cX11_turnsLeft 1 = .ok (.iload_n 1, 1) := by decide +kernel
theorem dX11_turnsLeft_2 : decode cX11_turnsLeft 2 = .ok (.iload_n 2, 1) := by decide +kernel
theorem dX11_turnsLeft_3 : decode cX11_turnsLeft 3 = .ok (.iconst 0, 1) := by decide +kernel
theorem dX11_turnsLeft_4 : decode cX11_turnsLeft 4 = .ok (.invokevirtual 92, 3) := by decide +kernel
theorem dX11_turnsLeft_7 : decode cX11_turnsLeft 7 = .ok (.lstore_n 3, 1) := by decide +kernel
theorem dX11_turnsLeft_8 : decode cX11_turnsLeft 8 = .ok (.aload_n 0, 1) := by decide +kernel
theorem dX11_turnsLeft_9 : decode cX11_turnsLeft 9 = .ok (.iload_n 1, 1) := by decide +kernel
theorem dX11_turnsLeft_10 : decode cX11_turnsLeft 10 = .ok (.iload_n 2, 1) := by decide +kernel
theorem dX11_turnsLeft_11 : decode cX11_turnsLeft 11 = .ok (.iconst 1, 1) := by decide +kernel
theorem dX11_turnsLeft_12 : decode cX11_turnsLeft 12 = .ok (.invokevirtual 92, 3) := by decide +kernel
theorem dX11_turnsLeft_15 : decode cX11_turnsLeft 15 = .ok (.lstore 5, 2) := by decide +kernel
theorem dX11_turnsLeft_17 : decode cX11_turnsLeft 17 = .ok (.aload_n 0, 1) := by decide +kernel
theorem dX11_turnsLeft_18 : decode cX11_turnsLeft 18 = .ok (.iload_n 1, 1) := by decide +kernel
theorem dX11_turnsLeft_19 : decode cX11_turnsLeft 19 = .ok (.iload_n 2, 1) := by decide +kernel
theorem dX11_turnsLeft_20 : decode cX11_turnsLeft 20 = .ok (.iconst 1, 1) := by decide +kernel
theorem dX11_turnsLeft_21 : decode cX11_turnsLeft 21 = .ok (.iadd, 1) := by decide +kernel
theorem dX11_turnsLeft_22 : decode cX11_turnsLeft 22 = .ok (.iconst 0, 1) := by decide +kernel
theorem dX11_turnsLeft_23 : decode cX11_turnsLeft 23 = .ok (.invokevirtual 92, 3) := by decide +kernel
theorem dX11_turnsLeft_26 : decode cX11_turnsLeft 26 = .ok (.lstore 7, 2) := by decide +kernel
theorem dX11_turnsLeft_28 : decode cX11_turnsLeft 28 = .ok (.aload_n 0, 1) := by decide +kernel
theorem dX11_turnsLeft_29 : decode cX11_turnsLeft 29 = .ok (.iload_n 1, 1) := by decide +kernel
theorem dX11_turnsLeft_30 : decode cX11_turnsLeft 30 = .ok (.iload_n 2, 1) := by decide +kernel
theorem dX11_turnsLeft_31 : decode cX11_turnsLeft 31 = .ok (.iconst 1, 1) := by decide +kernel
theorem dX11_turnsLeft_32 : decode cX11_turnsLeft 32 = .ok (.iadd, 1) := by decide +kernel
theorem dX11_turnsLeft_33 : decode cX11_turnsLeft 33 = .ok (.iconst 1, 1) := by decide +kernel
theorem dX11_turnsLeft_34 : decode cX11_turnsLeft 34 = .ok (.invokevirtual 92, 3) := by decide +kernel
theorem dX11_turnsLeft_37 : decode cX11_turnsLeft 37 = .ok (.lstore 9, 2) := by decide +kernel
theorem dX11_turnsLeft_39 : decode cX11_turnsLeft 39 = .ok (.aload_n 0, 1) := by decide +kernel
theorem dX11_turnsLeft_40 : decode cX11_turnsLeft 40 = .ok (.iload_n 1, 1) := by decide +kernel
theorem dX11_turnsLeft_41 : decode cX11_turnsLeft 41 = .ok (.iload_n 2, 1) := by decide +kernel
theorem dX11_turnsLeft_42 : decode cX11_turnsLeft 42 = .ok (.iconst 2, 1) := by decide +kernel
theorem dX11_turnsLeft_43 : decode cX11_turnsLeft 43 = .ok (.iadd, 1) := by decide +kernel
theorem dX11_turnsLeft_44 : decode cX11_turnsLeft 44 = .ok (.iconst 0, 1) := by decide +kernel
theorem dX11_turnsLeft_45 : decode cX11_turnsLeft 45 = .ok (.invokevirtual 92, 3) := by decide +kernel
theorem dX11_turnsLeft_48 : decode cX11_turnsLeft 48 = .ok (.lstore 11, 2) := by decide +kernel
theorem dX11_turnsLeft_50 : decode cX11_turnsLeft 50 = .ok (.aload_n 0, 1) := by decide +kernel
theorem dX11_turnsLeft_51 : decode cX11_turnsLeft 51 = .ok (.iload_n 1, 1) := by decide +kernel
theorem dX11_turnsLeft_52 : decode cX11_turnsLeft 52 = .ok (.iload_n 2, 1) := by decide +kernel
theorem dX11_turnsLeft_53 : decode cX11_turnsLeft 53 = .ok (.iconst 2, 1) := by decide +kernel
theorem dX11_turnsLeft_54 : decode cX11_turnsLeft 54 = .ok (.iadd, 1) := by decide +kernel
theorem dX11_turnsLeft_55 : decode cX11_turnsLeft 55 = .ok (.iconst 1, 1) := by decide +kernel
theorem dX11_turnsLeft_56 : decode cX11_turnsLeft 56 = .ok (.invokevirtual 92, 3) := by decide +kernel
theorem dX11_turnsLeft_59 : decode cX11_turnsLeft 59 = .ok (.lstore 13, 2) := by decide +kernel
theorem dX11_turnsLeft_61 : decode cX11_turnsLeft 61 = .ok (.lload 7, 2) := by decide +kernel
theorem dX11_turnsLeft_63 : decode cX11_turnsLeft 63 = .ok (.lload_n 3, 1) := by decide +kernel
theorem dX11_turnsLeft_64 : decode cX11_turnsLeft 64 = .ok (.lsub, 1) := by decide +kernel
theorem dX11_turnsLeft_65 : decode cX11_turnsLeft 65 = .ok (.lload 13, 2) := by decide +kernel
theorem dX11_turnsLeft_67 : decode cX11_turnsLeft 67 = .ok (.lload 9, 2) := by decide +kernel
theorem dX11_turnsLeft_69 : decode cX11_turnsLeft 69 = .ok (.lsub, 1) := by decide +kernel
theorem dX11_turnsLeft_70 : decode cX11_turnsLeft 70 = .ok (.lmul, 1) := by decide +kernel
theorem dX11_turnsLeft_71 : decode cX11_turnsLeft 71 = .ok (.lload 9, 2) := by decide +kernel
theorem dX11_turnsLeft_73 : decode cX11_turnsLeft 73 = .ok (.lload 5, 2) := by decide +kernel
theorem dX11_turnsLeft_75 : decode cX11_turnsLeft 75 = .ok (.lsub, 1) := by decide +kernel
theorem dX11_turnsLeft_76 : decode cX11_turnsLeft 76 = .ok (.lload 11, 2) := by decide +kernel
theorem dX11_turnsLeft_78 : decode cX11_turnsLeft 78 = .ok (.lload 7, 2) := by decide +kernel
theorem dX11_turnsLeft_80 : decode cX11_turnsLeft 80 = .ok (.lsub, 1) := by decide +kernel
theorem dX11_turnsLeft_81 : decode cX11_turnsLeft 81 = .ok (.lmul, 1) := by decide +kernel
theorem dX11_turnsLeft_82 : decode cX11_turnsLeft 82 = .ok (.lsub, 1) := by decide +kernel
theorem dX11_turnsLeft_83 : decode cX11_turnsLeft 83 = .ok (.lconst 0, 1) := by decide +kernel
theorem dX11_turnsLeft_84 : decode cX11_turnsLeft 84 = .ok (.lcmp, 1) := by decide +kernel
theorem dX11_turnsLeft_85 : decode cX11_turnsLeft 85 = .ok (.ifCond .le 7, 3) := by decide +kernel
theorem dX11_turnsLeft_88 : decode cX11_turnsLeft 88 = .ok (.iconst 1, 1) := by decide +kernel
theorem dX11_turnsLeft_89 : decode cX11_turnsLeft 89 = .ok (.goto 4, 3) := by decide +kernel
theorem dX11_turnsLeft_92 : decode cX11_turnsLeft 92 = .ok (.iconst 0, 1) := by decide +kernel
theorem dX11_turnsLeft_93 : decode cX11_turnsLeft 93 = .ok (.ireturn, 1) := by decide +kernel
set_option maxRecDepth 20000 in
theorem ggX11_signChanges_X11_corners : GoodIn wsX11_signChanges wsX11_corners := goodIn_r _ [5, 6, 14, 15, 16, 17, 18, 19, 20, 21, 22, 23, 24, 25, 26, 27, 28, 29, 30, 31, 32, 33] (by decide +kernel) (by decide +kernel)
set_option maxRecDepth 20000 in
theorem gX11_signChanges_X11_corners : GoodIn wsX11_signChanges (wsV RX11 74 RX11 yX11_corners wsX11_corners) := goodIn_app (goodIn_of _ (by decide +kernel)) ggX11_signChanges_X11_corners
set_option maxRecDepth 20000 in
theorem ggX11_signChanges_X11_coordinate : GoodIn wsX11_signChanges wsX11_coordinate := goodIn_r _ [10, 6, 1, 2, 3, 4, 5, 11, 12, 13, 14, 15, 16, 17, 18, 19, 20, 21, 22, 23, 24, 25, 26, 27, 28, 29, 30, 31, 32, 33] (by decide +kernel) (by decide +kernel)
set_option maxRecDepth 20000 in
theorem gX11_signChanges_X11_coordinate : GoodIn wsX11_signChanges (wsV RX11 92 RX11 yX11_coordinate wsX11_coordinate) := goodIn_app (goodIn_of _ (by decide +kernel)) ggX11_signChanges_X11_coordinate
theorem dX11_signChanges_0 : decode cX11_signChanges 0 = .ok (.aload_n 0, 1) := by decide +kernel
theorem dX11_signChanges_1 : decode cX11_signChanges 1 = .ok (.iload_n 1, 1) := by decide +kernel
theorem dX11_signChanges_2 : decode cX11_signChanges 2 = .ok (.invokevirtual 74, 3) := by decide +kernel
theorem dX11_signChanges_5 : decode cX11_signChanges 5 = .ok (.istore_n 2, 1) := by decide +kernel
theorem dX11_signChanges_6 : decode cX11_signChanges 6 = .ok (.iconst 0, 1) := by decide +kernel
theorem dX11_signChanges_7 : decode cX11_signChanges 7 = .ok (.istore_n 3, 1) := by decide +kernel
theorem dX11_signChanges_8 : decode cX11_signChanges 8 = .ok (.iconst 0, 1) := by decide +kernel
theorem dX11_signChanges_9 : decode cX11_signChanges 9 = .ok (.istore 4, 2) := by decide +kernel
theorem dX11_signChanges_11 : decode cX11_signChanges 11 = .ok (.iconst 0, 1) := by decide +kernel
theorem dX11_signChanges_12 : decode cX11_signChanges 12 = .ok (.istore 5, 2) := by decide +kernel
theorem dX11_signChanges_14 : decode cX11_signChanges 14 = .ok (.iload 5, 2) := by decide +kernel
theorem dX11_signChanges_16 : decode cX11_signChanges 16 = .ok (.iconst 2, 1) := by decide +kernel
theorem dX11_signChanges_17 : decode cX11_signChanges 17 = .ok (.iload_n 2, 1) := by decide +kernel
theorem dX11_signChanges_18 : decode cX11_signChanges 18 = .ok (.imul, 1) := by decide +kernel
theorem dX11_signChanges_19 : decode cX11_signChanges 19 = .ok (.if_icmp .ge 100, 3) := by decide +kernel
theorem dX11_signChanges_22 : decode cX11_signChanges 22 = .ok (.aload_n 0, 1) := by decide +kernel
theorem dX11_signChanges_23 : decode cX11_signChanges 23 = .ok (.iload_n 1, 1) := by decide +kernel
theorem dX11_signChanges_24 : decode cX11_signChanges 24 = .ok (.iload 5, 2) := by decide +kernel
theorem dX11_signChanges_26 : decode cX11_signChanges 26 = .ok (.iconst 1, 1) := by decide +kernel
theorem dX11_signChanges_27 : decode cX11_signChanges 27 = .ok (.iadd, 1) := by decide +kernel
theorem dX11_signChanges_28 : decode cX11_signChanges 28 = .ok (.iconst 1, 1) := by decide +kernel
theorem dX11_signChanges_29 : decode cX11_signChanges 29 = .ok (.invokevirtual 92, 3) := by decide +kernel
theorem dX11_signChanges_32 : decode cX11_signChanges 32 = .ok (.aload_n 0, 1) := by decide +kernel
theorem dX11_signChanges_33 : decode cX11_signChanges 33 = .ok (.iload_n 1, 1) := by decide +kernel
theorem dX11_signChanges_34 : decode cX11_signChanges 34 = .ok (.iload 5, 2) := by decide +kernel
theorem dX11_signChanges_36 : decode cX11_signChanges 36 = .ok (.iconst 1, 1) := by decide +kernel
theorem dX11_signChanges_37 : decode cX11_signChanges 37 = .ok (.invokevirtual 92, 3) := by decide +kernel
theorem dX11_signChanges_40 : decode cX11_signChanges 40 = .ok (.lsub, 1) := by decide +kernel
theorem dX11_signChanges_41 : decode cX11_signChanges 41 = .ok (.lstore 6, 2) := by decide +kernel
theorem dX11_signChanges_43 : decode cX11_signChanges 43 = .ok (.lload 6, 2) := by decide +kernel
theorem dX11_signChanges_45 : decode cX11_signChanges 45 = .ok (.lconst 0, 1) := by decide +kernel
theorem dX11_signChanges_46 : decode cX11_signChanges 46 = .ok (.lcmp, 1) := by decide +kernel
theorem dX11_signChanges_47 : decode cX11_signChanges 47 = .ok (.ifCond .le 7, 3) := by decide +kernel
theorem dX11_signChanges_50 : decode cX11_signChanges 50 = .ok (.iconst 1, 1) := by decide +kernel
theorem dX11_signChanges_51 : decode cX11_signChanges 51 = .ok (.goto 15, 3) := by decide +kernel
theorem dX11_signChanges_54 : decode cX11_signChanges 54 = .ok (.lload 6, 2) := by decide +kernel
theorem dX11_signChanges_56 : decode cX11_signChanges 56 = .ok (.lconst 0, 1) := by decide +kernel
theorem dX11_signChanges_57 : decode cX11_signChanges 57 = .ok (.lcmp, 1) := by decide +kernel
theorem dX11_signChanges_58 : decode cX11_signChanges 58 = .ok (.ifCond .ge 7, 3) := by decide +kernel
theorem dX11_signChanges_61 : decode cX11_signChanges 61 = .ok (.iconst (-1), 1) := by decide +kernel
theorem dX11_signChanges_62 : decode cX11_signChanges 62 = .ok (.goto 4, 3) := by decide +kernel
theorem dX11_signChanges_65 : decode cX11_signChanges 65 = .ok (.iconst 0, 1) := by decide +kernel
theorem dX11_signChanges_66 : decode cX11_signChanges 66 = .ok (.istore 8, 2) := by decide +kernel
theorem dX11_signChanges_68 : decode cX11_signChanges 68 = .ok (.iload_n 3, 1) := by decide +kernel
theorem dX11_signChanges_69 : decode cX11_signChanges 69 = .ok (.iload 5, 2) := by decide +kernel
theorem dX11_signChanges_71 : decode cX11_signChanges 71 = .ok (.iload_n 2, 1) := by decide +kernel
theorem dX11_signChanges_72 : decode cX11_signChanges 72 = .ok (.if_icmp .lt 24, 3) := by decide +kernel
theorem dX11_signChanges_75 : decode cX11_signChanges 75 = .ok (.iload 8, 2) := by decide +kernel
theorem dX11_signChanges_77 : decode cX11_signChanges 77 = .ok (.ifCond .eq 19, 3) := by decide +kernel
theorem dX11_signChanges_80 : decode cX11_signChanges 80 = .ok (.iload 4, 2) := by decide +kernel
theorem dX11_signChanges_82 : decode cX11_signChanges 82 = .ok (.ifCond .eq 14, 3) := by decide +kernel
theorem dX11_signChanges_85 : decode cX11_signChanges 85 = .ok (.iload 8, 2) := by decide +kernel
theorem dX11_signChanges_87 : decode cX11_signChanges 87 = .ok (.iload 4, 2) := by decide +kernel
theorem dX11_signChanges_89 : decode cX11_signChanges 89 = .ok (.if_icmp .eq 7, 3) := by decide +kernel
theorem dX11_signChanges_92 : decode cX11_signChanges 92 = .ok (.iconst 1, 1) := by decide +kernel
theorem dX11_signChanges_93 : decode cX11_signChanges 93 = .ok (.goto 4, 3) := by decide +kernel
theorem dX11_signChanges_96 : decode cX11_signChanges 96 = .ok (.iconst 0, 1) := by decide +kernel
theorem dX11_signChanges_97 : decode cX11_signChanges 97 = .ok (.iadd, 1) := by decide +kernel
theorem dX11_signChanges_98 : decode cX11_signChanges 98 = .ok (.istore_n 3, 1) := by decide +kernel
theorem dX11_signChanges_99 : decode cX11_signChanges 99 = .ok (.iload 8, 2) := by decide +kernel
theorem dX11_signChanges_101 : decode cX11_signChanges 101 = .ok (.ifCond .eq 8, 3) := by decide +kernel
theorem dX11_signChanges_104 : decode cX11_signChanges 104 = .ok (.iload 8, 2) := by decide +kernel
theorem dX11_signChanges_106 : decode cX11_signChanges 106 = .ok (.goto 5, 3) := by decide +kernel
theorem dX11_signChanges_109 : decode cX11_signChanges 109 = .ok (.iload 4, 2) := by decide +kernel
theorem dX11_signChanges_111 : decode cX11_signChanges 111 = .ok (.istore 4, 2) := by decide +kernel
theorem dX11_signChanges_113 : decode cX11_signChanges 113 = .ok (.iinc 5 1, 3) := by decide +kernel
theorem dX11_signChanges_116 : decode cX11_signChanges 116 = .ok (.goto (-102), 3) := by decide +kernel
theorem dX11_signChanges_119 : decode cX11_signChanges 119 = .ok (.iload_n 3, 1) := by decide +kernel
theorem dX11_signChanges_120 : decode cX11_signChanges 120 = .ok (.ireturn, 1) := by decide +kernel
set_option maxRecDepth 20000 in
theorem ggX11_soundness_X11_corners : GoodIn wsX11_soundness wsX11_corners := goodIn_r _ [5, 6, 22, 23, 24, 25, 26, 27, 28, 29, 30, 31, 32, 33, 34, 35, 36, 37, 38, 39, 40, 41] (by decide +kernel) (by decide +kernel)
set_option maxRecDepth 20000 in
theorem gX11_soundness_X11_corners : GoodIn wsX11_soundness (wsV RX11 74 RX11 yX11_corners wsX11_corners) := goodIn_app (goodIn_of _ (by decide +kernel)) ggX11_soundness_X11_corners
set_option maxRecDepth 20000 in
theorem ggX11_soundness_X11_turnsLeft : GoodIn wsX11_soundness wsX11_turnsLeft := goodIn_r _ [10, 11, 12, 13, 4, 14, 6, 1, 2, 3, 5, 15, 16, 17, 22, 23, 24, 25, 26, 27, 28, 29, 30, 31, 32, 33, 34, 35, 36, 37, 38, 39, 40, 41] (by decide +kernel) (by decide +kernel)
set_option maxRecDepth 20000 in
theorem gX11_soundness_X11_turnsLeft : GoodIn wsX11_soundness (wsV RX11 96 RX11 yX11_turnsLeft wsX11_turnsLeft) := goodIn_app (goodIn_of _ (by decide +kernel)) ggX11_soundness_X11_turnsLeft
set_option maxRecDepth 20000 in
theorem ggX11_soundness_X11_signChanges : GoodIn wsX11_soundness wsX11_signChanges := goodIn_r _ [21, 1, 2, 3, 4, 5, 6, 11, 12, 13, 14, 15, 16, 17, 22, 23, 24, 25, 26, 27, 28, 29, 30, 31, 32, 33, 34, 35, 36, 37, 38, 39, 40, 41] (by decide +kernel) (by decide +kernel)
set_option maxRecDepth 20000 in
theorem gX11_soundness_X11_signChanges : GoodIn wsX11_soundness (wsV RX11 100 RX11 yX11_signChanges wsX11_signChanges) := goodIn_app (goodIn_of _ (by decide +kernel)) ggX11_soundness_X11_signChanges
theorem dX11_soundness_0 : decode cX11_soundness 0 = .ok (.aload_n 0, 1) := by decide +kernel
theorem dX11_soundness_1 : decode cX11_soundness 1 = .ok (.iload_n 1, 1) := by decide +kernel
theorem dX11_soundness_2 : decode cX11_soundness 2 = .ok (.invokevirtual 74, 3) := by decide +kernel
theorem dX11_soundness_5 : decode cX11_soundness 5 = .ok (.istore_n 2, 1) := by decide +kernel
theorem dX11_soundness_6 : decode cX11_soundness 6 = .ok (.iload_n 2, 1) := by decide +kernel
theorem dX11_soundness_7 : decode cX11_soundness 7 = .ok (.iconst 3, 1) := by decide +kernel
theorem dX11_soundness_8 : decode cX11_soundness 8 = .ok (.if_icmp .ge 5, 3) := by decide +kernel
theorem dX11_soundness_11 : decode cX11_soundness 11 = .ok (.iconst 1, 1) := by decide +kernel
theorem dX11_soundness_12 : decode cX11_soundness 12 = .ok (.ireturn, 1) := by decide +kernel
theorem dX11_soundness_13 : decode cX11_soundness 13 = .ok (.iconst 0, 1) := by decide +kernel
theorem dX11_soundness_14 : decode cX11_soundness 14 = .ok (.istore_n 3, 1) := by decide +kernel
theorem dX11_soundness_15 : decode cX11_soundness 15 = .ok (.iload_n 3, 1) := by decide +kernel
theorem dX11_soundness_16 : decode cX11_soundness 16 = .ok (.iload_n 2, 1) := by decide +kernel
theorem dX11_soundness_17 : decode cX11_soundness 17 = .ok (.if_icmp .ge 20, 3) := by decide +kernel
theorem dX11_soundness_20 : decode cX11_soundness 20 = .ok (.aload_n 0, 1) := by decide +kernel
theorem dX11_soundness_21 : decode cX11_soundness 21 = .ok (.iload_n 1, 1) := by decide +kernel
theorem dX11_soundness_22 : decode cX11_soundness 22 = .ok (.iload_n 3, 1) := by decide +kernel
theorem dX11_soundness_23 : decode cX11_soundness 23 = .ok (.invokevirtual 96, 3) := by decide +kernel
theorem dX11_soundness_26 : decode cX11_soundness 26 = .ok (.ifCond .ne 5, 3) := by decide +kernel
theorem dX11_soundness_29 : decode cX11_soundness 29 = .ok (.iconst 2, 1) := by decide +kernel
theorem dX11_soundness_30 : decode cX11_soundness 30 = .ok (.ireturn, 1) := by decide +kernel
theorem dX11_soundness_31 : decode cX11_soundness 31 = .ok (.iinc 3 1, 3) := by decide +kernel
theorem dX11_soundness_34 : decode cX11_soundness 34 = .ok (.goto (-19), 3) := by decide +kernel
theorem dX11_soundness_37 : decode cX11_soundness 37 = .ok (.aload_n 0, 1) := by decide +kernel
theorem dX11_soundness_38 : decode cX11_soundness 38 = .ok (.iload_n 1, 1) := by decide +kernel
theorem dX11_soundness_39 : decode cX11_soundness 39 = .ok (.invokevirtual 100, 3) := by decide +kernel
theorem dX11_soundness_42 : decode cX11_soundness 42 = .ok (.iconst 2, 1) := by decide +kernel
theorem dX11_soundness_43 : decode cX11_soundness 43 = .ok (.if_icmp .ne 7, 3) := by decide +kernel
theorem dX11_soundness_46 : decode cX11_soundness 46 = .ok (.iconst 0, 1) := by decide +kernel
theorem dX11_soundness_47 : decode cX11_soundness 47 = .ok (.goto 4, 3) := by decide +kernel
theorem dX11_soundness_50 : decode cX11_soundness 50 = .ok (.iconst 3, 1) := by decide +kernel
theorem dX11_soundness_51 : decode cX11_soundness 51 = .ok (.ireturn, 1) := by decide +kernel
set_option maxRecDepth 20000 in
theorem ggX11_sound_X11_isPolygon : GoodIn wsX11_sound wsX11_isPolygon := goodIn_r _ [4, 5, 6, 7, 3, 8] (by decide +kernel) (by decide +kernel)
set_option maxRecDepth 20000 in
theorem gX11_sound_X11_isPolygon : GoodIn wsX11_sound (va_wsS RX11 81 yX11_isPolygon wsX11_isPolygon) := goodIn_app (goodIn_of _ (by decide +kernel)) ggX11_sound_X11_isPolygon
set_option maxRecDepth 20000 in
theorem ggX11_sound_X11_soundness : GoodIn wsX11_sound wsX11_soundness := goodIn_r _ [12, 13, 14, 15, 3, 16, 17, 18, 19, 20, 21, 22, 23, 24, 25, 26, 27, 28, 29, 30, 31, 32, 33, 34, 35, 36, 37, 38, 39, 40, 41, 42, 43, 44, 45, 46, 47, 48, 49, 50, 51, 52] (by decide +kernel) (by decide +kernel)
set_option maxRecDepth 20000 in
theorem gX11_sound_X11_soundness : GoodIn wsX11_sound (wsV RX11 103 RX11 yX11_soundness wsX11_soundness) := goodIn_app (goodIn_of _ (by decide +kernel)) ggX11_sound_X11_soundness
theorem dX11_sound_0 : decode cX11_sound 0 = .ok (.iload_n 1, 1) := by decide +kernel
theorem dX11_sound_1 : decode cX11_sound 1 = .ok (.invokestatic 81, 3) := by decide +kernel
theorem dX11_sound_4 : decode cX11_sound 4 = .ok (.ifCond .eq 11, 3) := by decide +kernel
theorem dX11_sound_7 : decode cX11_sound 7 = .ok (.aload_n 0, 1) := by decide +kernel
theorem dX11_sound_8 : decode cX11_sound 8 = .ok (.iload_n 1, 1) := by decide +kernel
theorem dX11_sound_9 : decode cX11_sound 9 = .ok (.invokevirtual 103, 3) := by decide +kernel
theorem dX11_sound_12 : decode cX11_sound 12 = .ok (.goto 4, 3) := by decide +kernel
theorem dX11_sound_15 : decode cX11_sound 15 = .ok (.iconst (-1), 1) := by decide +kernel
theorem dX11_sound_16 : decode cX11_sound 16 = .ok (.ireturn, 1) := by decide +kernel
set_option maxRecDepth 20000 in
theorem ggX11_holds_X11_soundness : GoodIn wsX11_holds wsX11_soundness := goodIn_r _ [5, 6, 7, 8, 4, 9, 10, 11, 12, 13, 14, 15, 16, 17, 18, 19, 20, 21, 22, 23, 24, 25, 26, 27, 28, 29, 30, 31, 32, 33, 34, 35, 36, 37, 38, 39, 40, 41, 42, 43, 44, 45] (by decide +kernel) (by decide +kernel)
set_option maxRecDepth 20000 in
theorem gX11_holds_X11_soundness : GoodIn wsX11_holds (wsV RX11 103 RX11 yX11_soundness wsX11_soundness) := goodIn_app (goodIn_of _ (by decide +kernel)) ggX11_holds_X11_soundness
set_option maxRecDepth 20000 in
theorem ggX11_holds_X11_corners : GoodIn wsX11_holds wsX11_corners := goodIn_r _ [9, 10, 26, 27, 28, 29, 30, 31, 32, 33, 34, 35, 36, 37, 38, 39, 40, 41, 42, 43, 44, 45] (by decide +kernel) (by decide +kernel)
set_option maxRecDepth 20000 in
theorem gX11_holds_X11_corners : GoodIn wsX11_holds (wsV RX11 74 RX11 yX11_corners wsX11_corners) := goodIn_app (goodIn_of _ (by decide +kernel)) ggX11_holds_X11_corners
set_option maxRecDepth 20000 in
theorem ggX11_holds_X11_coordinate : GoodIn wsX11_holds wsX11_coordinate := goodIn_r _ [18, 10, 6, 7, 8, 4, 9, 19, 20, 21, 26, 27, 28, 29, 30, 31, 32, 33, 34, 35, 36, 37, 38, 39, 40, 41, 42, 43, 44, 45] (by decide +kernel) (by decide +kernel)
set_option maxRecDepth 20000 in
theorem gX11_holds_X11_coordinate : GoodIn wsX11_holds (wsV RX11 92 RX11 yX11_coordinate wsX11_coordinate) := goodIn_app (goodIn_of _ (by decide +kernel)) ggX11_holds_X11_coordinate
theorem dX11_holds_0 : decode cX11_holds 0 = .ok (.aload_n 0, 1) := by decide +kernel
theorem dX11_holds_1 : decode cX11_holds 1 = .ok (.iload_n 1, 1) := by decide +kernel
theorem dX11_holds_2 : decode cX11_holds 2 = .ok (.invokevirtual 103, 3) := by decide +kernel
theorem dX11_holds_5 : decode cX11_holds 5 = .ok (.ifCond .eq 5, 3) := by decide +kernel
theorem dX11_holds_8 : decode cX11_holds 8 = .ok (.iconst 0, 1) := by decide +kernel
theorem dX11_holds_9 : decode cX11_holds 9 = .ok (.ireturn, 1) := by decide +kernel
theorem dX11_holds_10 : decode cX11_holds 10 = .ok (.iconst 1, 1) := by decide +kernel
theorem dX11_holds_11 : decode cX11_holds 11 = .ok (.istore 8, 2) := by decide +kernel
theorem dX11_holds_13 : decode cX11_holds 13 = .ok (.iconst 0, 1) := by decide +kernel
theorem dX11_holds_14 : decode cX11_holds 14 = .ok (.istore 9, 2) := by decide +kernel
theorem dX11_holds_16 : decode cX11_holds 16 = .ok (.iload 9, 2) := by decide +kernel
theorem dX11_holds_18 : decode cX11_holds 18 = .ok (.aload_n 0, 1) := by decide +kernel
theorem dX11_holds_19 : decode cX11_holds 19 = .ok (.iload_n 1, 1) := by decide +kernel
theorem dX11_holds_20 : decode cX11_holds 20 = .ok (.invokevirtual 74, 3) := by decide +kernel
theorem dX11_holds_23 : decode cX11_holds 23 = .ok (.if_icmp .ge 98, 3) := by decide +kernel
theorem dX11_holds_26 : decode cX11_holds 26 = .ok (.aload_n 0, 1) := by decide +kernel
theorem dX11_holds_27 : decode cX11_holds 27 = .ok (.iload_n 1, 1) := by decide +kernel
theorem dX11_holds_28 : decode cX11_holds 28 = .ok (.iload 9, 2) := by decide +kernel
theorem dX11_holds_30 : decode cX11_holds 30 = .ok (.iconst 0, 1) := by decide +kernel
theorem dX11_holds_31 : decode cX11_holds 31 = .ok (.invokevirtual 92, 3) := by decide +kernel
theorem dX11_holds_34 : decode cX11_holds 34 = .ok (.lstore 10, 2) := by decide +kernel
theorem dX11_holds_36 : decode cX11_holds 36 = .ok (.aload_n 0, 1) := by decide +kernel
theorem dX11_holds_37 : decode cX11_holds 37 = .ok (.iload_n 1, 1) := by decide +kernel
theorem dX11_holds_38 : decode cX11_holds 38 = .ok (.iload 9, 2) := by decide +kernel
theorem dX11_holds_40 : decode cX11_holds 40 = .ok (.iconst 1, 1) := by decide +kernel
theorem dX11_holds_41 : decode cX11_holds 41 = .ok (.invokevirtual 92, 3) := by decide +kernel
theorem dX11_holds_44 : decode cX11_holds 44 = .ok (.lstore 12, 2) := by decide +kernel
theorem dX11_holds_46 : decode cX11_holds 46 = .ok (.aload_n 0, 1) := by decide +kernel
theorem dX11_holds_47 : decode cX11_holds 47 = .ok (.iload_n 1, 1) := by decide +kernel
theorem dX11_holds_48 : decode cX11_holds 48 = .ok (.iload 9, 2) := by decide +kernel
theorem dX11_holds_50 : decode cX11_holds 50 = .ok (.iconst 1, 1) := by decide +kernel
theorem dX11_holds_51 : decode cX11_holds 51 = .ok (.iadd, 1) := by decide +kernel
theorem dX11_holds_52 : decode cX11_holds 52 = .ok (.iconst 0, 1) := by decide +kernel
theorem dX11_holds_53 : decode cX11_holds 53 = .ok (.invokevirtual 92, 3) := by decide +kernel
theorem dX11_holds_56 : decode cX11_holds 56 = .ok (.lload 10, 2) := by decide +kernel
theorem dX11_holds_58 : decode cX11_holds 58 = .ok (.lsub, 1) := by decide +kernel
theorem dX11_holds_59 : decode cX11_holds 59 = .ok (.lstore 14, 2) := by decide +kernel
theorem dX11_holds_61 : decode cX11_holds 61 = .ok (.aload_n 0, 1) := by decide +kernel
theorem dX11_holds_62 : decode cX11_holds 62 = .ok (.iload_n 1, 1) := by decide +kernel
theorem dX11_holds_63 : decode cX11_holds 63 = .ok (.iload 9, 2) := by decide +kernel
theorem dX11_holds_65 : decode cX11_holds 65 = .ok (.iconst 1, 1) := by decide +kernel
theorem dX11_holds_66 : decode cX11_holds 66 = .ok (.iadd, 1) := by decide +kernel
theorem dX11_holds_67 : decode cX11_holds 67 = .ok (.iconst 1, 1) := by decide +kernel
theorem dX11_holds_68 : decode cX11_holds 68 = .ok (.invokevirtual 92, 3) := by decide +kernel
theorem dX11_holds_71 : decode cX11_holds 71 = .ok (.lload 12, 2) := by decide +kernel
theorem dX11_holds_73 : decode cX11_holds 73 = .ok (.lsub, 1) := by decide +kernel
theorem dX11_holds_74 : decode cX11_holds 74 = .ok (.lstore 16, 2) := by decide +kernel
theorem dX11_holds_76 : decode cX11_holds 76 = .ok (.iload 8, 2) := by decide +kernel
theorem dX11_holds_78 : decode cX11_holds 78 = .ok (.ifCond .eq 34, 3) := by decide +kernel
theorem dX11_holds_81 : decode cX11_holds 81 = .ok (.lload 14, 2) := by decide +kernel
theorem dX11_holds_83 : decode cX11_holds 83 = .ok (.lload 4, 2) := by decide +kernel
theorem dX11_holds_85 : decode cX11_holds 85 = .ok (.lload 12, 2) := by decide +kernel
theorem dX11_holds_87 : decode cX11_holds 87 = .ok (.lload 6, 2) := by decide +kernel
theorem dX11_holds_89 : decode cX11_holds 89 = .ok (.lmul, 1) := by decide +kernel
theorem dX11_holds_90 : decode cX11_holds 90 = .ok (.lsub, 1) := by decide +kernel
theorem dX11_holds_91 : decode cX11_holds 91 = .ok (.lmul, 1) := by decide +kernel
theorem dX11_holds_92 : decode cX11_holds 92 = .ok (.lload 16, 2) := by decide +kernel
theorem dX11_holds_94 : decode cX11_holds 94 = .ok (.lload_n 2, 1) := by decide +kernel
theorem dX11_holds_95 : decode cX11_holds 95 = .ok (.lload 10, 2) := by decide +kernel
theorem dX11_holds_97 : decode cX11_holds 97 = .ok (.lload 6, 2) := by decide +kernel
theorem dX11_holds_99 : decode cX11_holds 99 = .ok (.lmul, 1) := by decide +kernel
theorem dX11_holds_100 : decode cX11_holds 100 = .ok (.lsub, 1) := by decide +kernel
theorem dX11_holds_101 : decode cX11_holds 101 = .ok (.lmul, 1) := by decide +kernel
theorem dX11_holds_102 : decode cX11_holds 102 = .ok (.lsub, 1) := by decide +kernel
theorem dX11_holds_103 : decode cX11_holds 103 = .ok (.lconst 0, 1) := by decide +kernel
theorem dX11_holds_104 : decode cX11_holds 104 = .ok (.lcmp, 1) := by decide +kernel
theorem dX11_holds_105 : decode cX11_holds 105 = .ok (.ifCond .lt 7, 3) := by decide +kernel
theorem dX11_holds_108 : decode cX11_holds 108 = .ok (.iconst 1, 1) := by decide +kernel
theorem dX11_holds_109 : decode cX11_holds 109 = .ok (.goto 4, 3) := by decide +kernel
theorem dX11_holds_112 : decode cX11_holds 112 = .ok (.iconst 0, 1) := by decide +kernel
theorem dX11_holds_113 : decode cX11_holds 113 = .ok (.istore 8, 2) := by decide +kernel
theorem dX11_holds_115 : decode cX11_holds 115 = .ok (.iinc 9 1, 3) := by decide +kernel
theorem dX11_holds_118 : decode cX11_holds 118 = .ok (.goto (-102), 3) := by decide +kernel
theorem dX11_holds_121 : decode cX11_holds 121 = .ok (.iload 8, 2) := by decide +kernel
theorem dX11_holds_123 : decode cX11_holds 123 = .ok (.ireturn, 1) := by decide +kernel
set_option maxRecDepth 20000 in
theorem ggX11_contains_X11_isPolygon : GoodIn wsX11_contains wsX11_isPolygon := goodIn_r _ [6, 7, 8, 9, 5, 10] (by decide +kernel) (by decide +kernel)
set_option maxRecDepth 20000 in
theorem gX11_contains_X11_isPolygon : GoodIn wsX11_contains (va_wsS RX11 81 yX11_isPolygon wsX11_isPolygon) := goodIn_app (goodIn_of _ (by decide +kernel)) ggX11_contains_X11_isPolygon
set_option maxRecDepth 20000 in
theorem ggX11_contains_X11_in : GoodIn wsX11_contains wsX11_in := goodIn_r _ [10] (by decide +kernel) (by decide +kernel)
set_option maxRecDepth 20000 in
theorem gX11_contains_X11_in : GoodIn wsX11_contains (va_wsS RX11 68 yX11_in wsX11_in) := goodIn_app (goodIn_of _ (by decide +kernel)) ggX11_contains_X11_in
set_option maxRecDepth 20000 in
theorem ggX11_contains_X11_holds : GoodIn wsX11_contains wsX11_holds := goodIn_r _ [14, 15, 16, 17, 5, 18, 19, 20, 21, 22, 23, 24, 25, 26, 27, 28, 29, 30, 31, 32, 33, 34, 35, 36, 37, 38, 39, 40, 41, 42, 43, 44, 45, 46, 47, 48, 49, 50, 51, 52, 53, 54, 55, 56, 57, 58] (by decide +kernel) (by decide +kernel)
set_option maxRecDepth 20000 in
theorem gX11_contains_X11_holds : GoodIn wsX11_contains (wsV RX11 110 RX11 yX11_holds wsX11_holds) := goodIn_app (goodIn_of _ (by decide +kernel)) ggX11_contains_X11_holds
theorem dX11_contains_0 : decode cX11_contains 0 = .ok (.iload_n 1, 1) := by decide +kernel
theorem dX11_contains_1 : decode cX11_contains 1 = .ok (.invokestatic 81, 3) := by decide +kernel
theorem dX11_contains_4 : decode cX11_contains 4 = .ok (.ifCond .ne 5, 3) := by decide +kernel
theorem dX11_contains_7 : decode cX11_contains 7 = .ok (.iconst (-1), 1) := by decide +kernel
theorem dX11_contains_8 : decode cX11_contains 8 = .ok (.ireturn, 1) := by decide +kernel
theorem dX11_contains_9 : decode cX11_contains 9 = .ok (.iload_n 2, 1) := by decide +kernel
theorem dX11_contains_10 : decode cX11_contains 10 = .ok (.i2l, 1) := by decide +kernel
theorem dX11_contains_11 : decode cX11_contains 11 = .ok (.ldc2_w 106, 3) := by decide +kernel
theorem dX11_contains_14 : decode cX11_contains 14 = .ok (.ldc2_w 108, 3) := by decide +kernel
theorem dX11_contains_17 : decode cX11_contains 17 = .ok (.invokestatic 68, 3) := by decide +kernel
theorem dX11_contains_20 : decode cX11_contains 20 = .ok (.ifCond .eq 17, 3) := by decide +kernel
theorem dX11_contains_23 : decode cX11_contains 23 = .ok (.iload_n 3, 1) := by decide +kernel
theorem dX11_contains_24 : decode cX11_contains 24 = .ok (.i2l, 1) := by decide +kernel
theorem dX11_contains_25 : decode cX11_contains 25 = .ok (.ldc2_w 106, 3) := by decide +kernel
theorem dX11_contains_28 : decode cX11_contains 28 = .ok (.ldc2_w 108, 3) := by decide +kernel
theorem dX11_contains_31 : decode cX11_contains 31 = .ok (.invokestatic 68, 3) := by decide +kernel
theorem dX11_contains_34 : decode cX11_contains 34 = .ok (.ifCond .ne 6, 3) := by decide +kernel
theorem dX11_contains_37 : decode cX11_contains 37 = .ok (.bipush (-2), 2) := by decide +kernel
theorem dX11_contains_39 : decode cX11_contains 39 = .ok (.ireturn, 1) := by decide +kernel
theorem dX11_contains_40 : decode cX11_contains 40 = .ok (.aload_n 0, 1) := by decide +kernel
theorem dX11_contains_41 : decode cX11_contains 41 = .ok (.iload_n 1, 1) := by decide +kernel
theorem dX11_contains_42 : decode cX11_contains 42 = .ok (.iload_n 2, 1) := by decide +kernel
theorem dX11_contains_43 : decode cX11_contains 43 = .ok (.i2l, 1) := by decide +kernel
theorem dX11_contains_44 : decode cX11_contains 44 = .ok (.iload_n 3, 1) := by decide +kernel
theorem dX11_contains_45 : decode cX11_contains 45 = .ok (.i2l, 1) := by decide +kernel
theorem dX11_contains_46 : decode cX11_contains 46 = .ok (.lconst 1, 1) := by decide +kernel
theorem dX11_contains_47 : decode cX11_contains 47 = .ok (.invokevirtual 110, 3) := by decide +kernel
theorem dX11_contains_50 : decode cX11_contains 50 = .ok (.ifCond .eq 7, 3) := by decide +kernel
theorem dX11_contains_53 : decode cX11_contains 53 = .ok (.iconst 1, 1) := by decide +kernel
theorem dX11_contains_54 : decode cX11_contains 54 = .ok (.goto 4, 3) := by decide +kernel
theorem dX11_contains_57 : decode cX11_contains 57 = .ok (.iconst 0, 1) := by decide +kernel
theorem dX11_contains_58 : decode cX11_contains 58 = .ok (.ireturn, 1) := by decide +kernel
set_option maxRecDepth 20000 in
theorem ggX11_takes_X11_in : GoodIn wsX11_takes wsX11_in := goodIn_r _ [8] (by decide +kernel) (by decide +kernel)
set_option maxRecDepth 20000 in
theorem gX11_takes_X11_in : GoodIn wsX11_takes (va_wsS RX11 68 yX11_in wsX11_in) := goodIn_app (goodIn_of _ (by decide +kernel)) ggX11_takes_X11_in
theorem dX11_takes_0 : decode cX11_takes 0 = .ok (.iload_n 0, 1) := by decide +kernel
theorem dX11_takes_1 : decode cX11_takes 1 = .ok (.tableswitch 107 0 7 #[47, 57, 67, 57, 77, 87, 97, 87], 47) := by decide +kernel
theorem dX11_takes_48 : decode cX11_takes 48 = .ok (.iload_n 1, 1) := by decide +kernel
theorem dX11_takes_49 : decode cX11_takes 49 = .ok (.i2l, 1) := by decide +kernel
theorem dX11_takes_50 : decode cX11_takes 50 = .ok (.lconst 1, 1) := by decide +kernel
theorem dX11_takes_51 : decode cX11_takes 51 = .ok (.ldc2_w 46, 3) := by decide +kernel
theorem dX11_takes_54 : decode cX11_takes 54 = .ok (.invokestatic 68, 3) := by decide +kernel
theorem dX11_takes_57 : decode cX11_takes 57 = .ok (.ireturn, 1) := by decide +kernel
theorem dX11_takes_58 : decode cX11_takes 58 = .ok (.iload_n 1, 1) := by decide +kernel
theorem dX11_takes_59 : decode cX11_takes 59 = .ok (.i2l, 1) := by decide +kernel
theorem dX11_takes_60 : decode cX11_takes 60 = .ok (.lconst 0, 1) := by decide +kernel
theorem dX11_takes_61 : decode cX11_takes 61 = .ok (.ldc2_w 46, 3) := by decide +kernel
theorem dX11_takes_64 : decode cX11_takes 64 = .ok (.invokestatic 68, 3) := by decide +kernel
theorem dX11_takes_67 : decode cX11_takes 67 = .ok (.ireturn, 1) := by decide +kernel
theorem dX11_takes_68 : decode cX11_takes 68 = .ok (.iload_n 1, 1) := by decide +kernel
theorem dX11_takes_69 : decode cX11_takes 69 = .ok (.i2l, 1) := by decide +kernel
theorem dX11_takes_70 : decode cX11_takes 70 = .ok (.lconst 0, 1) := by decide +kernel
theorem dX11_takes_71 : decode cX11_takes 71 = .ok (.ldc2_w 40, 3) := by decide +kernel
theorem dX11_takes_74 : decode cX11_takes 74 = .ok (.invokestatic 68, 3) := by decide +kernel
theorem dX11_takes_77 : decode cX11_takes 77 = .ok (.ireturn, 1) := by decide +kernel
theorem dX11_takes_78 : decode cX11_takes 78 = .ok (.iload_n 1, 1) := by decide +kernel
theorem dX11_takes_79 : decode cX11_takes 79 = .ok (.i2l, 1) := by decide +kernel
theorem dX11_takes_80 : decode cX11_takes 80 = .ok (.lconst 0, 1) := by decide +kernel
theorem dX11_takes_81 : decode cX11_takes 81 = .ok (.ldc2_w 36, 3) := by decide +kernel
theorem dX11_takes_84 : decode cX11_takes 84 = .ok (.invokestatic 68, 3) := by decide +kernel
theorem dX11_takes_87 : decode cX11_takes 87 = .ok (.ireturn, 1) := by decide +kernel
theorem dX11_takes_88 : decode cX11_takes 88 = .ok (.iload_n 1, 1) := by decide +kernel
theorem dX11_takes_89 : decode cX11_takes 89 = .ok (.i2l, 1) := by decide +kernel
theorem dX11_takes_90 : decode cX11_takes 90 = .ok (.lconst 0, 1) := by decide +kernel
theorem dX11_takes_91 : decode cX11_takes 91 = .ok (.ldc2_w 114, 3) := by decide +kernel
theorem dX11_takes_94 : decode cX11_takes 94 = .ok (.invokestatic 68, 3) := by decide +kernel
theorem dX11_takes_97 : decode cX11_takes 97 = .ok (.ireturn, 1) := by decide +kernel
theorem dX11_takes_98 : decode cX11_takes 98 = .ok (.iload_n 1, 1) := by decide +kernel
theorem dX11_takes_99 : decode cX11_takes 99 = .ok (.i2l, 1) := by decide +kernel
theorem dX11_takes_100 : decode cX11_takes 100 = .ok (.lconst 1, 1) := by decide +kernel
theorem dX11_takes_101 : decode cX11_takes 101 = .ok (.ldc2_w 40, 3) := by decide +kernel
theorem dX11_takes_104 : decode cX11_takes 104 = .ok (.invokestatic 68, 3) := by decide +kernel
theorem dX11_takes_107 : decode cX11_takes 107 = .ok (.ireturn, 1) := by decide +kernel
theorem dX11_takes_108 : decode cX11_takes 108 = .ok (.iconst 0, 1) := by decide +kernel
theorem dX11_takes_109 : decode cX11_takes 109 = .ok (.ireturn, 1) := by decide +kernel
set_option maxRecDepth 20000 in
theorem ggX11_set_X11_takes : GoodIn wsX11_set wsX11_takes := goodIn_r _ [5, 6, 7, 8, 9, 10, 11, 4, 12] (by decide +kernel) (by decide +kernel)
set_option maxRecDepth 20000 in
theorem gX11_set_X11_takes : GoodIn wsX11_set (va_wsS RX11 116 yX11_takes wsX11_takes) := goodIn_app (goodIn_of _ (by decide +kernel)) ggX11_set_X11_takes
theorem dX11_set_0 : decode cX11_set 0 = .ok (.iload_n 1, 1) := by decide +kernel
theorem dX11_set_1 : decode cX11_set 1 = .ok (.iload_n 2, 1) := by decide +kernel
theorem dX11_set_2 : decode cX11_set 2 = .ok (.invokestatic 116, 3) := by decide +kernel
theorem dX11_set_5 : decode cX11_set 5 = .ok (.ifCond .ne 6, 3) := by decide +kernel
theorem dX11_set_8 : decode cX11_set 8 = .ok (.bipush (-2), 2) := by decide +kernel
theorem dX11_set_10 : decode cX11_set 10 = .ok (.ireturn, 1) := by decide +kernel
theorem dX11_set_11 : decode cX11_set 11 = .ok (.aload_n 0, 1) := by decide +kernel
theorem dX11_set_12 : decode cX11_set 12 = .ok (.getfield 7, 3) := by decide +kernel
theorem dX11_set_15 : decode cX11_set 15 = .ok (.bipush 21, 2) := by decide +kernel
theorem dX11_set_17 : decode cX11_set 17 = .ok (.iload_n 1, 1) := by decide +kernel
theorem dX11_set_18 : decode cX11_set 18 = .ok (.iadd, 1) := by decide +kernel
theorem dX11_set_19 : decode cX11_set 19 = .ok (.laload, 1) := by decide +kernel
theorem dX11_set_20 : decode cX11_set 20 = .ok (.l2i, 1) := by decide +kernel
theorem dX11_set_21 : decode cX11_set 21 = .ok (.istore_n 3, 1) := by decide +kernel
theorem dX11_set_22 : decode cX11_set 22 = .ok (.aload_n 0, 1) := by decide +kernel
theorem dX11_set_23 : decode cX11_set 23 = .ok (.getfield 7, 3) := by decide +kernel
theorem dX11_set_26 : decode cX11_set 26 = .ok (.bipush 21, 2) := by decide +kernel
theorem dX11_set_28 : decode cX11_set 28 = .ok (.iload_n 1, 1) := by decide +kernel
theorem dX11_set_29 : decode cX11_set 29 = .ok (.iadd, 1) := by decide +kernel
theorem dX11_set_30 : decode cX11_set 30 = .ok (.iload_n 2, 1) := by decide +kernel
theorem dX11_set_31 : decode cX11_set 31 = .ok (.i2l, 1) := by decide +kernel
theorem dX11_set_32 : decode cX11_set 32 = .ok (.lastore, 1) := by decide +kernel
theorem dX11_set_33 : decode cX11_set 33 = .ok (.iload_n 3, 1) := by decide +kernel
theorem dX11_set_34 : decode cX11_set 34 = .ok (.ireturn, 1) := by decide +kernel
set_option maxRecDepth 20000 in
theorem ggX11_zone_X11_isZone : GoodIn wsX11_zone wsX11_isZone := goodIn_r _ [7, 2, 8, 9, 6, 10] (by decide +kernel) (by decide +kernel)
set_option maxRecDepth 20000 in
theorem gX11_zone_X11_isZone : GoodIn wsX11_zone (va_wsS RX11 119 yX11_isZone wsX11_isZone) := goodIn_app (goodIn_of _ (by decide +kernel)) ggX11_zone_X11_isZone
set_option maxRecDepth 20000 in
theorem ggX11_zone_X11_in : GoodIn wsX11_zone wsX11_in := goodIn_r _ [10] (by decide +kernel) (by decide +kernel)
set_option maxRecDepth 20000 in
theorem gX11_zone_X11_in : GoodIn wsX11_zone (va_wsS RX11 68 yX11_in wsX11_in) := goodIn_app (goodIn_of _ (by decide +kernel)) ggX11_zone_X11_in
theorem dX11_zone_0 : decode cX11_zone 0 = .ok (.iload_n 1, 1) := by decide +kernel
theorem dX11_zone_1 : decode cX11_zone 1 = .ok (.invokestatic 119, 3) := by decide +kernel
theorem dX11_zone_4 : decode cX11_zone 4 = .ok (.ifCond .ne 5, 3) := by decide +kernel
theorem dX11_zone_7 : decode cX11_zone 7 = .ok (.iconst (-1), 1) := by decide +kernel
theorem dX11_zone_8 : decode cX11_zone 8 = .ok (.ireturn, 1) := by decide +kernel
theorem dX11_zone_9 : decode cX11_zone 9 = .ok (.iload_n 2, 1) := by decide +kernel
theorem dX11_zone_10 : decode cX11_zone 10 = .ok (.i2l, 1) := by decide +kernel
theorem dX11_zone_11 : decode cX11_zone 11 = .ok (.lconst 1, 1) := by decide +kernel
theorem dX11_zone_12 : decode cX11_zone 12 = .ok (.ldc2_w 122, 3) := by decide +kernel
theorem dX11_zone_15 : decode cX11_zone 15 = .ok (.invokestatic 68, 3) := by decide +kernel
theorem dX11_zone_18 : decode cX11_zone 18 = .ok (.ifCond .eq 15, 3) := by decide +kernel
theorem dX11_zone_21 : decode cX11_zone 21 = .ok (.iload_n 3, 1) := by decide +kernel
theorem dX11_zone_22 : decode cX11_zone 22 = .ok (.i2l, 1) := by decide +kernel
theorem dX11_zone_23 : decode cX11_zone 23 = .ok (.lconst 0, 1) := by decide +kernel
theorem dX11_zone_24 : decode cX11_zone 24 = .ok (.ldc2_w 72, 3) := by decide +kernel
theorem dX11_zone_27 : decode cX11_zone 27 = .ok (.invokestatic 68, 3) := by decide +kernel
theorem dX11_zone_30 : decode cX11_zone 30 = .ok (.ifCond .ne 6, 3) := by decide +kernel
theorem dX11_zone_33 : decode cX11_zone 33 = .ok (.bipush (-2), 2) := by decide +kernel
theorem dX11_zone_35 : decode cX11_zone 35 = .ok (.ireturn, 1) := by decide +kernel
theorem dX11_zone_36 : decode cX11_zone 36 = .ok (.aload_n 0, 1) := by decide +kernel
theorem dX11_zone_37 : decode cX11_zone 37 = .ok (.getfield 7, 3) := by decide +kernel
theorem dX11_zone_40 : decode cX11_zone 40 = .ok (.bipush 29, 2) := by decide +kernel
theorem dX11_zone_42 : decode cX11_zone 42 = .ok (.iload_n 1, 1) := by decide +kernel
theorem dX11_zone_43 : decode cX11_zone 43 = .ok (.iadd, 1) := by decide +kernel
theorem dX11_zone_44 : decode cX11_zone 44 = .ok (.laload, 1) := by decide +kernel
theorem dX11_zone_45 : decode cX11_zone 45 = .ok (.l2i, 1) := by decide +kernel
theorem dX11_zone_46 : decode cX11_zone 46 = .ok (.istore 4, 2) := by decide +kernel
theorem dX11_zone_48 : decode cX11_zone 48 = .ok (.aload_n 0, 1) := by decide +kernel
theorem dX11_zone_49 : decode cX11_zone 49 = .ok (.getfield 7, 3) := by decide +kernel
theorem dX11_zone_52 : decode cX11_zone 52 = .ok (.bipush 29, 2) := by decide +kernel
theorem dX11_zone_54 : decode cX11_zone 54 = .ok (.iload_n 1, 1) := by decide +kernel
theorem dX11_zone_55 : decode cX11_zone 55 = .ok (.iadd, 1) := by decide +kernel
theorem dX11_zone_56 : decode cX11_zone 56 = .ok (.iload_n 2, 1) := by decide +kernel
theorem dX11_zone_57 : decode cX11_zone 57 = .ok (.i2l, 1) := by decide +kernel
theorem dX11_zone_58 : decode cX11_zone 58 = .ok (.lastore, 1) := by decide +kernel
theorem dX11_zone_59 : decode cX11_zone 59 = .ok (.aload_n 0, 1) := by decide +kernel
theorem dX11_zone_60 : decode cX11_zone 60 = .ok (.getfield 7, 3) := by decide +kernel
theorem dX11_zone_63 : decode cX11_zone 63 = .ok (.bipush 32, 2) := by decide +kernel
theorem dX11_zone_65 : decode cX11_zone 65 = .ok (.iload_n 1, 1) := by decide +kernel
theorem dX11_zone_66 : decode cX11_zone 66 = .ok (.iadd, 1) := by decide +kernel
theorem dX11_zone_67 : decode cX11_zone 67 = .ok (.iload_n 3, 1) := by decide +kernel
theorem dX11_zone_68 : decode cX11_zone 68 = .ok (.i2l, 1) := by decide +kernel
theorem dX11_zone_69 : decode cX11_zone 69 = .ok (.lastore, 1) := by decide +kernel
theorem dX11_zone_70 : decode cX11_zone 70 = .ok (.iload 4, 2) := by decide +kernel
theorem dX11_zone_72 : decode cX11_zone 72 = .ok (.ireturn, 1) := by decide +kernel
set_option maxRecDepth 20000 in
theorem ggX11_arePhasors_X11_in : GoodIn wsX11_arePhasors wsX11_in := goodIn_r _ [6] (by decide +kernel) (by decide +kernel)
set_option maxRecDepth 20000 in
theorem gX11_arePhasors_X11_in : GoodIn wsX11_arePhasors (va_wsS RX11 68 yX11_in wsX11_in) := goodIn_app (goodIn_of _ (by decide +kernel)) ggX11_arePhasors_X11_in
theorem dX11_arePhasors_0 : decode cX11_arePhasors 0 = .ok (.iload_n 0, 1) := by decide +kernel
theorem dX11_arePhasors_1 : decode cX11_arePhasors 1 = .ok (.i2l, 1) := by decide +kernel
theorem dX11_arePhasors_2 : decode cX11_arePhasors 2 = .ok (.ldc2_w 85, 3) := by decide +kernel
theorem dX11_arePhasors_5 : decode cX11_arePhasors 5 = .ok (.ldc2_w 46, 3) := by decide +kernel
theorem dX11_arePhasors_8 : decode cX11_arePhasors 8 = .ok (.invokestatic 68, 3) := by decide +kernel
theorem dX11_arePhasors_11 : decode cX11_arePhasors 11 = .ok (.ifCond .eq 49, 3) := by decide +kernel
theorem dX11_arePhasors_14 : decode cX11_arePhasors 14 = .ok (.iload_n 1, 1) := by decide +kernel
theorem dX11_arePhasors_15 : decode cX11_arePhasors 15 = .ok (.i2l, 1) := by decide +kernel
theorem dX11_arePhasors_16 : decode cX11_arePhasors 16 = .ok (.ldc2_w 85, 3) := by decide +kernel
theorem dX11_arePhasors_19 : decode cX11_arePhasors 19 = .ok (.ldc2_w 46, 3) := by decide +kernel
theorem dX11_arePhasors_22 : decode cX11_arePhasors 22 = .ok (.invokestatic 68, 3) := by decide +kernel
theorem dX11_arePhasors_25 : decode cX11_arePhasors 25 = .ok (.ifCond .eq 35, 3) := by decide +kernel
theorem dX11_arePhasors_28 : decode cX11_arePhasors 28 = .ok (.iload_n 2, 1) := by decide +kernel
theorem dX11_arePhasors_29 : decode cX11_arePhasors 29 = .ok (.i2l, 1) := by decide +kernel
theorem dX11_arePhasors_30 : decode cX11_arePhasors 30 = .ok (.ldc2_w 85, 3) := by decide +kernel
theorem dX11_arePhasors_33 : decode cX11_arePhasors 33 = .ok (.ldc2_w 46, 3) := by decide +kernel
theorem dX11_arePhasors_36 : decode cX11_arePhasors 36 = .ok (.invokestatic 68, 3) := by decide +kernel
theorem dX11_arePhasors_39 : decode cX11_arePhasors 39 = .ok (.ifCond .eq 21, 3) := by decide +kernel
theorem dX11_arePhasors_42 : decode cX11_arePhasors 42 = .ok (.iload_n 3, 1) := by decide +kernel
theorem dX11_arePhasors_43 : decode cX11_arePhasors 43 = .ok (.i2l, 1) := by decide +kernel
theorem dX11_arePhasors_44 : decode cX11_arePhasors 44 = .ok (.ldc2_w 85, 3) := by decide +kernel
theorem dX11_arePhasors_47 : decode cX11_arePhasors 47 = .ok (.ldc2_w 46, 3) := by decide +kernel
theorem dX11_arePhasors_50 : decode cX11_arePhasors 50 = .ok (.invokestatic 68, 3) := by decide +kernel
theorem dX11_arePhasors_53 : decode cX11_arePhasors 53 = .ok (.ifCond .eq 7, 3) := by decide +kernel
theorem dX11_arePhasors_56 : decode cX11_arePhasors 56 = .ok (.iconst 1, 1) := by decide +kernel
theorem dX11_arePhasors_57 : decode cX11_arePhasors 57 = .ok (.goto 4, 3) := by decide +kernel
theorem dX11_arePhasors_60 : decode cX11_arePhasors 60 = .ok (.iconst 0, 1) := by decide +kernel
theorem dX11_arePhasors_61 : decode cX11_arePhasors 61 = .ok (.ireturn, 1) := by decide +kernel
theorem dX11_putFour_0 : decode cX11_putFour 0 = .ok (.aload_n 0, 1) := by decide +kernel
theorem dX11_putFour_1 : decode cX11_putFour 1 = .ok (.getfield 7, 3) := by decide +kernel
theorem dX11_putFour_4 : decode cX11_putFour 4 = .ok (.iload_n 1, 1) := by decide +kernel
theorem dX11_putFour_5 : decode cX11_putFour 5 = .ok (.lload_n 2, 1) := by decide +kernel
theorem dX11_putFour_6 : decode cX11_putFour 6 = .ok (.lastore, 1) := by decide +kernel
theorem dX11_putFour_7 : decode cX11_putFour 7 = .ok (.aload_n 0, 1) := by decide +kernel
theorem dX11_putFour_8 : decode cX11_putFour 8 = .ok (.getfield 7, 3) := by decide +kernel
theorem dX11_putFour_11 : decode cX11_putFour 11 = .ok (.iload_n 1, 1) := by decide +kernel
theorem dX11_putFour_12 : decode cX11_putFour 12 = .ok (.iconst 1, 1) := by decide +kernel
theorem dX11_putFour_13 : decode cX11_putFour 13 = .ok (.iadd, 1) := by decide +kernel
theorem dX11_putFour_14 : decode cX11_putFour 14 = .ok (.lload 4, 2) := by decide +kernel
theorem dX11_putFour_16 : decode cX11_putFour 16 = .ok (.lastore, 1) := by decide +kernel
theorem dX11_putFour_17 : decode cX11_putFour 17 = .ok (.aload_n 0, 1) := by decide +kernel
theorem dX11_putFour_18 : decode cX11_putFour 18 = .ok (.getfield 7, 3) := by decide +kernel
theorem dX11_putFour_21 : decode cX11_putFour 21 = .ok (.iload_n 1, 1) := by decide +kernel
theorem dX11_putFour_22 : decode cX11_putFour 22 = .ok (.iconst 2, 1) := by decide +kernel
theorem dX11_putFour_23 : decode cX11_putFour 23 = .ok (.iadd, 1) := by decide +kernel
theorem dX11_putFour_24 : decode cX11_putFour 24 = .ok (.lload 6, 2) := by decide +kernel
theorem dX11_putFour_26 : decode cX11_putFour 26 = .ok (.lastore, 1) := by decide +kernel
theorem dX11_putFour_27 : decode cX11_putFour 27 = .ok (.aload_n 0, 1) := by decide +kernel
theorem dX11_putFour_28 : decode cX11_putFour 28 = .ok (.getfield 7, 3) := by decide +kernel
theorem dX11_putFour_31 : decode cX11_putFour 31 = .ok (.iload_n 1, 1) := by decide +kernel
theorem dX11_putFour_32 : decode cX11_putFour 32 = .ok (.iconst 3, 1) := by decide +kernel
theorem dX11_putFour_33 : decode cX11_putFour 33 = .ok (.iadd, 1) := by decide +kernel
theorem dX11_putFour_34 : decode cX11_putFour 34 = .ok (.lload 8, 2) := by decide +kernel
theorem dX11_putFour_36 : decode cX11_putFour 36 = .ok (.lastore, 1) := by decide +kernel
theorem dX11_putFour_37 : decode cX11_putFour 37 = .ok (.return_, 1) := by decide +kernel
set_option maxRecDepth 20000 in
theorem ggX11_apply_X11_arePhasors : GoodIn wsX11_apply wsX11_arePhasors := goodIn_r _ [5, 6, 7, 8, 9, 4, 10] (by decide +kernel) (by decide +kernel)
set_option maxRecDepth 20000 in
theorem gX11_apply_X11_arePhasors : GoodIn wsX11_apply (va_wsS RX11 124 yX11_arePhasors wsX11_arePhasors) := goodIn_app (goodIn_of _ (by decide +kernel)) ggX11_apply_X11_arePhasors
set_option maxRecDepth 20000 in
theorem ggX11_apply_X11_putFour : GoodIn wsX11_apply wsX11_putFour := goodIn_r _ [14, 1, 15, 16, 17, 18, 19, 20, 21, 22, 23, 24, 25, 26, 27, 28, 29, 30, 31, 32, 33, 34] (by decide +kernel) (by decide +kernel)
set_option maxRecDepth 20000 in
theorem gX11_apply_X11_putFour : GoodIn wsX11_apply (wsV RX11 128 RX11 yX11_putFour wsX11_putFour) := goodIn_app (goodIn_of _ (by decide +kernel)) ggX11_apply_X11_putFour
theorem dX11_apply_0 : decode cX11_apply 0 = .ok (.iload_n 1, 1) := by decide +kernel
theorem dX11_apply_1 : decode cX11_apply 1 = .ok (.iload_n 2, 1) := by decide +kernel
theorem dX11_apply_2 : decode cX11_apply 2 = .ok (.iload_n 3, 1) := by decide +kernel
theorem dX11_apply_3 : decode cX11_apply 3 = .ok (.iload 4, 2) := by decide +kernel
theorem dX11_apply_5 : decode cX11_apply 5 = .ok (.invokestatic 124, 3) := by decide +kernel
theorem dX11_apply_8 : decode cX11_apply 8 = .ok (.ifCond .ne 6, 3) := by decide +kernel
theorem dX11_apply_11 : decode cX11_apply 11 = .ok (.bipush (-2), 2) := by decide +kernel
theorem dX11_apply_13 : decode cX11_apply 13 = .ok (.ireturn, 1) := by decide +kernel
theorem dX11_apply_14 : decode cX11_apply 14 = .ok (.aload_n 0, 1) := by decide +kernel
theorem dX11_apply_15 : decode cX11_apply 15 = .ok (.iconst 0, 1) := by decide +kernel
theorem dX11_apply_16 : decode cX11_apply 16 = .ok (.iload_n 1, 1) := by decide +kernel
theorem dX11_apply_17 : decode cX11_apply 17 = .ok (.i2l, 1) := by decide +kernel
theorem dX11_apply_18 : decode cX11_apply 18 = .ok (.iload_n 2, 1) := by decide +kernel
theorem dX11_apply_19 : decode cX11_apply 19 = .ok (.i2l, 1) := by decide +kernel
theorem dX11_apply_20 : decode cX11_apply 20 = .ok (.iload_n 3, 1) := by decide +kernel
theorem dX11_apply_21 : decode cX11_apply 21 = .ok (.i2l, 1) := by decide +kernel
theorem dX11_apply_22 : decode cX11_apply 22 = .ok (.iload 4, 2) := by decide +kernel
theorem dX11_apply_24 : decode cX11_apply 24 = .ok (.i2l, 1) := by decide +kernel
theorem dX11_apply_25 : decode cX11_apply 25 = .ok (.invokevirtual 128, 3) := by decide +kernel
theorem dX11_apply_28 : decode cX11_apply 28 = .ok (.aload_n 0, 1) := by decide +kernel
theorem dX11_apply_29 : decode cX11_apply 29 = .ok (.getfield 7, 3) := by decide +kernel
theorem dX11_apply_32 : decode cX11_apply 32 = .ok (.iconst 4, 1) := by decide +kernel
theorem dX11_apply_33 : decode cX11_apply 33 = .ok (.lconst 0, 1) := by decide +kernel
theorem dX11_apply_34 : decode cX11_apply 34 = .ok (.lastore, 1) := by decide +kernel
theorem dX11_apply_35 : decode cX11_apply 35 = .ok (.aload_n 0, 1) := by decide +kernel
theorem dX11_apply_36 : decode cX11_apply 36 = .ok (.getfield 7, 3) := by decide +kernel
theorem dX11_apply_39 : decode cX11_apply 39 = .ok (.bipush 35, 2) := by decide +kernel
theorem dX11_apply_41 : decode cX11_apply 41 = .ok (.laload, 1) := by decide +kernel
theorem dX11_apply_42 : decode cX11_apply 42 = .ok (.l2i, 1) := by decide +kernel
theorem dX11_apply_43 : decode cX11_apply 43 = .ok (.ireturn, 1) := by decide +kernel
set_option maxRecDepth 20000 in
theorem ggX11_ramp_X11_in : GoodIn wsX11_ramp wsX11_in := goodIn_r _ [6] (by decide +kernel) (by decide +kernel)
set_option maxRecDepth 20000 in
theorem gX11_ramp_X11_in : GoodIn wsX11_ramp (va_wsS RX11 68 yX11_in wsX11_in) := goodIn_app (goodIn_of _ (by decide +kernel)) ggX11_ramp_X11_in
set_option maxRecDepth 20000 in
theorem ggX11_ramp_X11_arePhasors : GoodIn wsX11_ramp wsX11_arePhasors := goodIn_r _ [9, 10, 11, 3, 4, 5, 6] (by decide +kernel) (by decide +kernel)
set_option maxRecDepth 20000 in
theorem gX11_ramp_X11_arePhasors : GoodIn wsX11_ramp (va_wsS RX11 124 yX11_arePhasors wsX11_arePhasors) := goodIn_app (goodIn_of _ (by decide +kernel)) ggX11_ramp_X11_arePhasors
set_option maxRecDepth 20000 in
theorem ggX11_ramp_X11_putFour : GoodIn wsX11_ramp wsX11_putFour := goodIn_r _ [15, 2, 16, 17, 18, 19, 20, 21, 22, 23, 24, 25, 26, 27, 28, 29, 30, 31, 32, 33, 34, 35] (by decide +kernel) (by decide +kernel)
set_option maxRecDepth 20000 in
theorem gX11_ramp_X11_putFour : GoodIn wsX11_ramp (wsV RX11 128 RX11 yX11_putFour wsX11_putFour) := goodIn_app (goodIn_of _ (by decide +kernel)) ggX11_ramp_X11_putFour
theorem dX11_ramp_0 : decode cX11_ramp 0 = .ok (.iload_n 1, 1) := by decide +kernel
theorem dX11_ramp_1 : decode cX11_ramp 1 = .ok (.i2l, 1) := by decide +kernel
theorem dX11_ramp_2 : decode cX11_ramp 2 = .ok (.lconst 1, 1) := by decide +kernel
theorem dX11_ramp_3 : decode cX11_ramp 3 = .ok (.ldc2_w 122, 3) := by decide +kernel
theorem dX11_ramp_6 : decode cX11_ramp 6 = .ok (.invokestatic 68, 3) := by decide +kernel
theorem dX11_ramp_9 : decode cX11_ramp 9 = .ok (.ifCond .eq 15, 3) := by decide +kernel
theorem dX11_ramp_12 : decode cX11_ramp 12 = .ok (.iload_n 2, 1) := by decide +kernel
theorem dX11_ramp_13 : decode cX11_ramp 13 = .ok (.iload_n 3, 1) := by decide +kernel
theorem dX11_ramp_14 : decode cX11_ramp 14 = .ok (.iload 4, 2) := by decide +kernel
theorem dX11_ramp_16 : decode cX11_ramp 16 = .ok (.iload 5, 2) := by decide +kernel
theorem dX11_ramp_18 : decode cX11_ramp 18 = .ok (.invokestatic 124, 3) := by decide +kernel
theorem dX11_ramp_21 : decode cX11_ramp 21 = .ok (.ifCond .ne 6, 3) := by decide +kernel
theorem dX11_ramp_24 : decode cX11_ramp 24 = .ok (.bipush (-2), 2) := by decide +kernel
theorem dX11_ramp_26 : decode cX11_ramp 26 = .ok (.ireturn, 1) := by decide +kernel
theorem dX11_ramp_27 : decode cX11_ramp 27 = .ok (.aload_n 0, 1) := by decide +kernel
theorem dX11_ramp_28 : decode cX11_ramp 28 = .ok (.bipush 6, 2) := by decide +kernel
theorem dX11_ramp_30 : decode cX11_ramp 30 = .ok (.aload_n 0, 1) := by decide +kernel
theorem dX11_ramp_31 : decode cX11_ramp 31 = .ok (.getfield 7, 3) := by decide +kernel
theorem dX11_ramp_34 : decode cX11_ramp 34 = .ok (.iconst 0, 1) := by decide +kernel
theorem dX11_ramp_35 : decode cX11_ramp 35 = .ok (.laload, 1) := by decide +kernel
theorem dX11_ramp_36 : decode cX11_ramp 36 = .ok (.aload_n 0, 1) := by decide +kernel
theorem dX11_ramp_37 : decode cX11_ramp 37 = .ok (.getfield 7, 3) := by decide +kernel
theorem dX11_ramp_40 : decode cX11_ramp 40 = .ok (.iconst 1, 1) := by decide +kernel
theorem dX11_ramp_41 : decode cX11_ramp 41 = .ok (.laload, 1) := by decide +kernel
theorem dX11_ramp_42 : decode cX11_ramp 42 = .ok (.aload_n 0, 1) := by decide +kernel
theorem dX11_ramp_43 : decode cX11_ramp 43 = .ok (.getfield 7, 3) := by decide +kernel
theorem dX11_ramp_46 : decode cX11_ramp 46 = .ok (.iconst 2, 1) := by decide +kernel
theorem dX11_ramp_47 : decode cX11_ramp 47 = .ok (.laload, 1) := by decide +kernel
theorem dX11_ramp_48 : decode cX11_ramp 48 = .ok (.aload_n 0, 1) := by decide +kernel
theorem dX11_ramp_49 : decode cX11_ramp 49 = .ok (.getfield 7, 3) := by decide +kernel
theorem dX11_ramp_52 : decode cX11_ramp 52 = .ok (.iconst 3, 1) := by decide +kernel
theorem dX11_ramp_53 : decode cX11_ramp 53 = .ok (.laload, 1) := by decide +kernel
theorem dX11_ramp_54 : decode cX11_ramp 54 = .ok (.invokevirtual 128, 3) := by decide +kernel
theorem dX11_ramp_57 : decode cX11_ramp 57 = .ok (.aload_n 0, 1) := by decide +kernel
theorem dX11_ramp_58 : decode cX11_ramp 58 = .ok (.bipush 10, 2) := by decide +kernel
theorem dX11_ramp_60 : decode cX11_ramp 60 = .ok (.iload_n 2, 1) := by decide +kernel
theorem dX11_ramp_61 : decode cX11_ramp 61 = .ok (.i2l, 1) := by decide +kernel
theorem dX11_ramp_62 : decode cX11_ramp 62 = .ok (.iload_n 3, 1) := by decide +kernel
theorem dX11_ramp_63 : decode cX11_ramp 63 = .ok (.i2l, 1) := by decide +kernel
theorem dX11_ramp_64 : decode cX11_ramp 64 = .ok (.iload 4, 2) := by decide +kernel
theorem dX11_ramp_66 : decode cX11_ramp 66 = .ok (.i2l, 1) := by decide +kernel
theorem dX11_ramp_67 : decode cX11_ramp 67 = .ok (.iload 5, 2) := by decide +kernel
theorem dX11_ramp_69 : decode cX11_ramp 69 = .ok (.i2l, 1) := by decide +kernel
theorem dX11_ramp_70 : decode cX11_ramp 70 = .ok (.invokevirtual 128, 3) := by decide +kernel
theorem dX11_ramp_73 : decode cX11_ramp 73 = .ok (.aload_n 0, 1) := by decide +kernel
theorem dX11_ramp_74 : decode cX11_ramp 74 = .ok (.getfield 7, 3) := by decide +kernel
theorem dX11_ramp_77 : decode cX11_ramp 77 = .ok (.iconst 4, 1) := by decide +kernel
theorem dX11_ramp_78 : decode cX11_ramp 78 = .ok (.iload_n 1, 1) := by decide +kernel
theorem dX11_ramp_79 : decode cX11_ramp 79 = .ok (.i2l, 1) := by decide +kernel
theorem dX11_ramp_80 : decode cX11_ramp 80 = .ok (.lastore, 1) := by decide +kernel
theorem dX11_ramp_81 : decode cX11_ramp 81 = .ok (.aload_n 0, 1) := by decide +kernel
theorem dX11_ramp_82 : decode cX11_ramp 82 = .ok (.getfield 7, 3) := by decide +kernel
theorem dX11_ramp_85 : decode cX11_ramp 85 = .ok (.iconst 5, 1) := by decide +kernel
theorem dX11_ramp_86 : decode cX11_ramp 86 = .ok (.iload_n 1, 1) := by decide +kernel
theorem dX11_ramp_87 : decode cX11_ramp 87 = .ok (.i2l, 1) := by decide +kernel
theorem dX11_ramp_88 : decode cX11_ramp 88 = .ok (.lastore, 1) := by decide +kernel
theorem dX11_ramp_89 : decode cX11_ramp 89 = .ok (.aload_n 0, 1) := by decide +kernel
theorem dX11_ramp_90 : decode cX11_ramp 90 = .ok (.getfield 7, 3) := by decide +kernel
theorem dX11_ramp_93 : decode cX11_ramp 93 = .ok (.bipush 35, 2) := by decide +kernel
theorem dX11_ramp_95 : decode cX11_ramp 95 = .ok (.laload, 1) := by decide +kernel
theorem dX11_ramp_96 : decode cX11_ramp 96 = .ok (.l2i, 1) := by decide +kernel
theorem dX11_ramp_97 : decode cX11_ramp 97 = .ok (.ireturn, 1) := by decide +kernel
set_option maxRecDepth 20000 in
theorem ggX11_network_X11_in : GoodIn wsX11_network wsX11_in := goodIn_r _ [7] (by decide +kernel) (by decide +kernel)
set_option maxRecDepth 20000 in
theorem gX11_network_X11_in : GoodIn wsX11_network (va_wsS RX11 68 yX11_in wsX11_in) := goodIn_app (goodIn_of _ (by decide +kernel)) ggX11_network_X11_in
theorem dX11_network_0 : decode cX11_network 0 = .ok (.iload_n 1, 1) := by decide +kernel
theorem dX11_network_1 : decode cX11_network 1 = .ok (.ifCond .ne 27, 3) := by decide +kernel
theorem dX11_network_4 : decode cX11_network 4 = .ok (.iload_n 2, 1) := by decide +kernel
theorem dX11_network_5 : decode cX11_network 5 = .ok (.i2l, 1) := by decide +kernel
theorem dX11_network_6 : decode cX11_network 6 = .ok (.lconst 1, 1) := by decide +kernel
theorem dX11_network_7 : decode cX11_network 7 = .ok (.ldc2_w 46, 3) := by decide +kernel
theorem dX11_network_10 : decode cX11_network 10 = .ok (.invokestatic 68, 3) := by decide +kernel
theorem dX11_network_13 : decode cX11_network 13 = .ok (.ifCond .eq 11, 3) := by decide +kernel
theorem dX11_network_16 : decode cX11_network 16 = .ok (.iload_n 3, 1) := by decide +kernel
theorem dX11_network_17 : decode cX11_network 17 = .ok (.ifCond .ne 7, 3) := by decide +kernel
theorem dX11_network_20 : decode cX11_network 20 = .ok (.iconst 1, 1) := by decide +kernel
theorem dX11_network_21 : decode cX11_network 21 = .ok (.goto 48, 3) := by decide +kernel
theorem dX11_network_24 : decode cX11_network 24 = .ok (.iconst 0, 1) := by decide +kernel
theorem dX11_network_25 : decode cX11_network 25 = .ok (.goto 44, 3) := by decide +kernel
theorem dX11_network_28 : decode cX11_network 28 = .ok (.iload_n 1, 1) := by decide +kernel
theorem dX11_network_29 : decode cX11_network 29 = .ok (.i2l, 1) := by decide +kernel
theorem dX11_network_30 : decode cX11_network 30 = .ok (.lconst 1, 1) := by decide +kernel
theorem dX11_network_31 : decode cX11_network 31 = .ok (.ldc2_w 132, 3) := by decide +kernel
theorem dX11_network_34 : decode cX11_network 34 = .ok (.invokestatic 68, 3) := by decide +kernel
theorem dX11_network_37 : decode cX11_network 37 = .ok (.ifCond .eq 31, 3) := by decide +kernel
theorem dX11_network_40 : decode cX11_network 40 = .ok (.iload_n 2, 1) := by decide +kernel
theorem dX11_network_41 : decode cX11_network 41 = .ok (.i2l, 1) := by decide +kernel
theorem dX11_network_42 : decode cX11_network 42 = .ok (.lconst 0, 1) := by decide +kernel
theorem dX11_network_43 : decode cX11_network 43 = .ok (.ldc2_w 46, 3) := by decide +kernel
theorem dX11_network_46 : decode cX11_network 46 = .ok (.invokestatic 68, 3) := by decide +kernel
theorem dX11_network_49 : decode cX11_network 49 = .ok (.ifCond .eq 19, 3) := by decide +kernel
theorem dX11_network_52 : decode cX11_network 52 = .ok (.iload_n 3, 1) := by decide +kernel
theorem dX11_network_53 : decode cX11_network 53 = .ok (.i2l, 1) := by decide +kernel
theorem dX11_network_54 : decode cX11_network 54 = .ok (.lconst 0, 1) := by decide +kernel
theorem dX11_network_55 : decode cX11_network 55 = .ok (.ldc2_w 46, 3) := by decide +kernel
theorem dX11_network_58 : decode cX11_network 58 = .ok (.invokestatic 68, 3) := by decide +kernel
theorem dX11_network_61 : decode cX11_network 61 = .ok (.ifCond .eq 7, 3) := by decide +kernel
theorem dX11_network_64 : decode cX11_network 64 = .ok (.iconst 1, 1) := by decide +kernel
theorem dX11_network_65 : decode cX11_network 65 = .ok (.goto 4, 3) := by decide +kernel
theorem dX11_network_68 : decode cX11_network 68 = .ok (.iconst 0, 1) := by decide +kernel
theorem dX11_network_69 : decode cX11_network 69 = .ok (.istore 4, 2) := by decide +kernel
theorem dX11_network_71 : decode cX11_network 71 = .ok (.iload 4, 2) := by decide +kernel
theorem dX11_network_73 : decode cX11_network 73 = .ok (.ifCond .ne 6, 3) := by decide +kernel
theorem dX11_network_76 : decode cX11_network 76 = .ok (.bipush (-2), 2) := by decide +kernel
theorem dX11_network_78 : decode cX11_network 78 = .ok (.ireturn, 1) := by decide +kernel
theorem dX11_network_79 : decode cX11_network 79 = .ok (.iload_n 1, 1) := by decide +kernel
theorem dX11_network_80 : decode cX11_network 80 = .ok (.ifCond .ne 8, 3) := by decide +kernel
theorem dX11_network_83 : decode cX11_network 83 = .ok (.bipush 14, 2) := by decide +kernel
theorem dX11_network_85 : decode cX11_network 85 = .ok (.goto 11, 3) := by decide +kernel
theorem dX11_network_88 : decode cX11_network 88 = .ok (.bipush 14, 2) := by decide +kernel
theorem dX11_network_90 : decode cX11_network 90 = .ok (.iconst 2, 1) := by decide +kernel
theorem dX11_network_91 : decode cX11_network 91 = .ok (.iload_n 1, 1) := by decide +kernel
theorem dX11_network_92 : decode cX11_network 92 = .ok (.imul, 1) := by decide +kernel
theorem dX11_network_93 : decode cX11_network 93 = .ok (.iadd, 1) := by decide +kernel
theorem dX11_network_94 : decode cX11_network 94 = .ok (.iconst 1, 1) := by decide +kernel
theorem dX11_network_95 : decode cX11_network 95 = .ok (.isub, 1) := by decide +kernel
theorem dX11_network_96 : decode cX11_network 96 = .ok (.istore 5, 2) := by decide +kernel
theorem dX11_network_98 : decode cX11_network 98 = .ok (.aload_n 0, 1) := by decide +kernel
theorem dX11_network_99 : decode cX11_network 99 = .ok (.getfield 7, 3) := by decide +kernel
theorem dX11_network_102 : decode cX11_network 102 = .ok (.iload 5, 2) := by decide +kernel
theorem dX11_network_104 : decode cX11_network 104 = .ok (.laload, 1) := by decide +kernel
theorem dX11_network_105 : decode cX11_network 105 = .ok (.l2i, 1) := by decide +kernel
theorem dX11_network_106 : decode cX11_network 106 = .ok (.istore 6, 2) := by decide +kernel
theorem dX11_network_108 : decode cX11_network 108 = .ok (.aload_n 0, 1) := by decide +kernel
theorem dX11_network_109 : decode cX11_network 109 = .ok (.getfield 7, 3) := by decide +kernel
theorem dX11_network_112 : decode cX11_network 112 = .ok (.iload 5, 2) := by decide +kernel
theorem dX11_network_114 : decode cX11_network 114 = .ok (.iload_n 2, 1) := by decide +kernel
theorem dX11_network_115 : decode cX11_network 115 = .ok (.i2l, 1) := by decide +kernel
theorem dX11_network_116 : decode cX11_network 116 = .ok (.lastore, 1) := by decide +kernel
theorem dX11_network_117 : decode cX11_network 117 = .ok (.iload_n 1, 1) := by decide +kernel
theorem dX11_network_118 : decode cX11_network 118 = .ok (.ifCond .le 14, 3) := by decide +kernel
theorem dX11_network_121 : decode cX11_network 121 = .ok (.aload_n 0, 1) := by decide +kernel
theorem dX11_network_122 : decode cX11_network 122 = .ok (.getfield 7, 3) := by decide +kernel
theorem dX11_network_125 : decode cX11_network 125 = .ok (.iload 5, 2) := by decide +kernel
theorem dX11_network_127 : decode cX11_network 127 = .ok (.iconst 1, 1) := by decide +kernel
theorem dX11_network_128 : decode cX11_network 128 = .ok (.iadd, 1) := by decide +kernel
theorem dX11_network_129 : decode cX11_network 129 = .ok (.iload_n 3, 1) := by decide +kernel
theorem dX11_network_130 : decode cX11_network 130 = .ok (.i2l, 1) := by decide +kernel
theorem dX11_network_131 : decode cX11_network 131 = .ok (.lastore, 1) := by decide +kernel
theorem dX11_network_132 : decode cX11_network 132 = .ok (.iload 6, 2) := by decide +kernel
theorem dX11_network_134 : decode cX11_network 134 = .ok (.ireturn, 1) := by decide +kernel
theorem dX11_limited_0 : decode cX11_limited 0 = .ok (.lload_n 0, 1) := by decide +kernel
theorem dX11_limited_1 : decode cX11_limited 1 = .ok (.ldc2_w 46, 3) := by decide +kernel
theorem dX11_limited_4 : decode cX11_limited 4 = .ok (.lcmp, 1) := by decide +kernel
theorem dX11_limited_5 : decode cX11_limited 5 = .ok (.ifCond .le 9, 3) := by decide +kernel
theorem dX11_limited_8 : decode cX11_limited 8 = .ok (.ldc2_w 46, 3) := by decide +kernel
theorem dX11_limited_11 : decode cX11_limited 11 = .ok (.goto 18, 3) := by decide +kernel
theorem dX11_limited_14 : decode cX11_limited 14 = .ok (.lload_n 0, 1) := by decide +kernel
theorem dX11_limited_15 : decode cX11_limited 15 = .ok (.ldc2_w 85, 3) := by decide +kernel
theorem dX11_limited_18 : decode cX11_limited 18 = .ok (.lcmp, 1) := by decide +kernel
theorem dX11_limited_19 : decode cX11_limited 19 = .ok (.ifCond .ge 9, 3) := by decide +kernel
theorem dX11_limited_22 : decode cX11_limited 22 = .ok (.ldc2_w 85, 3) := by decide +kernel
theorem dX11_limited_25 : decode cX11_limited 25 = .ok (.goto 4, 3) := by decide +kernel
theorem dX11_limited_28 : decode cX11_limited 28 = .ok (.lload_n 0, 1) := by decide +kernel
theorem dX11_limited_29 : decode cX11_limited 29 = .ok (.lreturn, 1) := by decide +kernel
set_option maxRecDepth 20000 in
theorem ggX11_finds_X11_limited : GoodIn wsX11_finds wsX11_limited := goodIn_r _ [11, 12, 13] (by decide +kernel) (by decide +kernel)
set_option maxRecDepth 20000 in
theorem gX11_finds_X11_limited : GoodIn wsX11_finds (va_wsS RX11 136 yX11_limited wsX11_limited) := goodIn_app (goodIn_of _ (by decide +kernel)) ggX11_finds_X11_limited
theorem dX11_finds_0 : decode cX11_finds 0 = .ok (.aload_n 0, 1) := by decide +kernel
theorem dX11_finds_1 : decode cX11_finds 1 = .ok (.getfield 7, 3) := by decide +kernel
theorem dX11_finds_4 : decode cX11_finds 4 = .ok (.bipush 14, 2) := by decide +kernel
theorem dX11_finds_6 : decode cX11_finds 6 = .ok (.laload, 1) := by decide +kernel
theorem dX11_finds_7 : decode cX11_finds 7 = .ok (.lstore 5, 2) := by decide +kernel
theorem dX11_finds_9 : decode cX11_finds 9 = .ok (.aload_n 0, 1) := by decide +kernel
theorem dX11_finds_10 : decode cX11_finds 10 = .ok (.getfield 7, 3) := by decide +kernel
theorem dX11_finds_13 : decode cX11_finds 13 = .ok (.bipush 15, 2) := by decide +kernel
theorem dX11_finds_15 : decode cX11_finds 15 = .ok (.laload, 1) := by decide +kernel
theorem dX11_finds_16 : decode cX11_finds 16 = .ok (.lstore 7, 2) := by decide +kernel
theorem dX11_finds_18 : decode cX11_finds 18 = .ok (.aload_n 0, 1) := by decide +kernel
theorem dX11_finds_19 : decode cX11_finds 19 = .ok (.getfield 7, 3) := by decide +kernel
theorem dX11_finds_22 : decode cX11_finds 22 = .ok (.bipush 16, 2) := by decide +kernel
theorem dX11_finds_24 : decode cX11_finds 24 = .ok (.laload, 1) := by decide +kernel
theorem dX11_finds_25 : decode cX11_finds 25 = .ok (.lstore 9, 2) := by decide +kernel
theorem dX11_finds_27 : decode cX11_finds 27 = .ok (.lload_n 1, 1) := by decide +kernel
theorem dX11_finds_28 : decode cX11_finds 28 = .ok (.lload 7, 2) := by decide +kernel
theorem dX11_finds_30 : decode cX11_finds 30 = .ok (.ladd, 1) := by decide +kernel
theorem dX11_finds_31 : decode cX11_finds 31 = .ok (.lstore 11, 2) := by decide +kernel
theorem dX11_finds_33 : decode cX11_finds 33 = .ok (.lload_n 3, 1) := by decide +kernel
theorem dX11_finds_34 : decode cX11_finds 34 = .ok (.lload 9, 2) := by decide +kernel
theorem dX11_finds_36 : decode cX11_finds 36 = .ok (.ladd, 1) := by decide +kernel
theorem dX11_finds_37 : decode cX11_finds 37 = .ok (.lstore 13, 2) := by decide +kernel
theorem dX11_finds_39 : decode cX11_finds 39 = .ok (.lload 11, 2) := by decide +kernel
theorem dX11_finds_41 : decode cX11_finds 41 = .ok (.lload 11, 2) := by decide +kernel
theorem dX11_finds_43 : decode cX11_finds 43 = .ok (.lmul, 1) := by decide +kernel
theorem dX11_finds_44 : decode cX11_finds 44 = .ok (.lload 13, 2) := by decide +kernel
theorem dX11_finds_46 : decode cX11_finds 46 = .ok (.lload 13, 2) := by decide +kernel
theorem dX11_finds_48 : decode cX11_finds 48 = .ok (.lmul, 1) := by decide +kernel
theorem dX11_finds_49 : decode cX11_finds 49 = .ok (.ladd, 1) := by decide +kernel
theorem dX11_finds_50 : decode cX11_finds 50 = .ok (.lstore 15, 2) := by decide +kernel
theorem dX11_finds_52 : decode cX11_finds 52 = .ok (.lload 15, 2) := by decide +kernel
theorem dX11_finds_54 : decode cX11_finds 54 = .ok (.lconst 0, 1) := by decide +kernel
theorem dX11_finds_55 : decode cX11_finds 55 = .ok (.lcmp, 1) := by decide +kernel
theorem dX11_finds_56 : decode cX11_finds 56 = .ok (.ifCond .ne 5, 3) := by decide +kernel
theorem dX11_finds_59 : decode cX11_finds 59 = .ok (.iconst 0, 1) := by decide +kernel
theorem dX11_finds_60 : decode cX11_finds 60 = .ok (.ireturn, 1) := by decide +kernel
theorem dX11_finds_61 : decode cX11_finds 61 = .ok (.ldc2_w 40, 3) := by decide +kernel
theorem dX11_finds_64 : decode cX11_finds 64 = .ok (.lload 5, 2) := by decide +kernel
theorem dX11_finds_66 : decode cX11_finds 66 = .ok (.lmul, 1) := by decide +kernel
theorem dX11_finds_67 : decode cX11_finds 67 = .ok (.lload 11, 2) := by decide +kernel
theorem dX11_finds_69 : decode cX11_finds 69 = .ok (.lmul, 1) := by decide +kernel
theorem dX11_finds_70 : decode cX11_finds 70 = .ok (.lload 15, 2) := by decide +kernel
theorem dX11_finds_72 : decode cX11_finds 72 = .ok (.ldiv, 1) := by decide +kernel
theorem dX11_finds_73 : decode cX11_finds 73 = .ok (.lstore 17, 2) := by decide +kernel
theorem dX11_finds_75 : decode cX11_finds 75 = .ok (.ldc2_w 134, 3) := by decide +kernel
theorem dX11_finds_78 : decode cX11_finds 78 = .ok (.lload 5, 2) := by decide +kernel
theorem dX11_finds_80 : decode cX11_finds 80 = .ok (.lmul, 1) := by decide +kernel
theorem dX11_finds_81 : decode cX11_finds 81 = .ok (.lload 13, 2) := by decide +kernel
theorem dX11_finds_83 : decode cX11_finds 83 = .ok (.lmul, 1) := by decide +kernel
theorem dX11_finds_84 : decode cX11_finds 84 = .ok (.lload 15, 2) := by decide +kernel
theorem dX11_finds_86 : decode cX11_finds 86 = .ok (.ldiv, 1) := by decide +kernel
theorem dX11_finds_87 : decode cX11_finds 87 = .ok (.lstore 19, 2) := by decide +kernel
theorem dX11_finds_89 : decode cX11_finds 89 = .ok (.aload_n 0, 1) := by decide +kernel
theorem dX11_finds_90 : decode cX11_finds 90 = .ok (.lload 5, 2) := by decide +kernel
theorem dX11_finds_92 : decode cX11_finds 92 = .ok (.lload 17, 2) := by decide +kernel
theorem dX11_finds_94 : decode cX11_finds 94 = .ok (.lload 7, 2) := by decide +kernel
theorem dX11_finds_96 : decode cX11_finds 96 = .ok (.lmul, 1) := by decide +kernel
theorem dX11_finds_97 : decode cX11_finds 97 = .ok (.lload 19, 2) := by decide +kernel
theorem dX11_finds_99 : decode cX11_finds 99 = .ok (.lload 9, 2) := by decide +kernel
theorem dX11_finds_101 : decode cX11_finds 101 = .ok (.lmul, 1) := by decide +kernel
theorem dX11_finds_102 : decode cX11_finds 102 = .ok (.lsub, 1) := by decide +kernel
theorem dX11_finds_103 : decode cX11_finds 103 = .ok (.ldc2_w 40, 3) := by decide +kernel
theorem dX11_finds_106 : decode cX11_finds 106 = .ok (.ldiv, 1) := by decide +kernel
theorem dX11_finds_107 : decode cX11_finds 107 = .ok (.lsub, 1) := by decide +kernel
theorem dX11_finds_108 : decode cX11_finds 108 = .ok (.invokestatic 136, 3) := by decide +kernel
theorem dX11_finds_111 : decode cX11_finds 111 = .ok (.putfield 140, 3) := by decide +kernel
theorem dX11_finds_114 : decode cX11_finds 114 = .ok (.aload_n 0, 1) := by decide +kernel
theorem dX11_finds_115 : decode cX11_finds 115 = .ok (.lload 17, 2) := by decide +kernel
theorem dX11_finds_117 : decode cX11_finds 117 = .ok (.lload 9, 2) := by decide +kernel
theorem dX11_finds_119 : decode cX11_finds 119 = .ok (.lmul, 1) := by decide +kernel
theorem dX11_finds_120 : decode cX11_finds 120 = .ok (.lload 19, 2) := by decide +kernel
theorem dX11_finds_122 : decode cX11_finds 122 = .ok (.lload 7, 2) := by decide +kernel
theorem dX11_finds_124 : decode cX11_finds 124 = .ok (.lmul, 1) := by decide +kernel
theorem dX11_finds_125 : decode cX11_finds 125 = .ok (.ladd, 1) := by decide +kernel
theorem dX11_finds_126 : decode cX11_finds 126 = .ok (.lneg, 1) := by decide +kernel
theorem dX11_finds_127 : decode cX11_finds 127 = .ok (.ldc2_w 40, 3) := by decide +kernel
theorem dX11_finds_130 : decode cX11_finds 130 = .ok (.ldiv, 1) := by decide +kernel
theorem dX11_finds_131 : decode cX11_finds 131 = .ok (.invokestatic 136, 3) := by decide +kernel
theorem dX11_finds_134 : decode cX11_finds 134 = .ok (.putfield 144, 3) := by decide +kernel
theorem dX11_finds_137 : decode cX11_finds 137 = .ok (.aload_n 0, 1) := by decide +kernel
theorem dX11_finds_138 : decode cX11_finds 138 = .ok (.lload 17, 2) := by decide +kernel
theorem dX11_finds_140 : decode cX11_finds 140 = .ok (.invokestatic 136, 3) := by decide +kernel
theorem dX11_finds_143 : decode cX11_finds 143 = .ok (.putfield 147, 3) := by decide +kernel
theorem dX11_finds_146 : decode cX11_finds 146 = .ok (.aload_n 0, 1) := by decide +kernel
theorem dX11_finds_147 : decode cX11_finds 147 = .ok (.lload 19, 2) := by decide +kernel
theorem dX11_finds_149 : decode cX11_finds 149 = .ok (.invokestatic 136, 3) := by decide +kernel
theorem dX11_finds_152 : decode cX11_finds 152 = .ok (.putfield 150, 3) := by decide +kernel
theorem dX11_finds_155 : decode cX11_finds 155 = .ok (.iconst 1, 1) := by decide +kernel
theorem dX11_finds_156 : decode cX11_finds 156 = .ok (.ireturn, 1) := by decide +kernel
set_option maxRecDepth 20000 in
theorem ggX11_findsFault_X11_finds : GoodIn wsX11_findsFault wsX11_finds := goodIn_r _ [7, 1, 2, 8, 9, 10, 11, 12, 13, 14, 6, 15, 16, 17, 18, 19, 20, 21, 22, 23, 24, 25, 26, 27, 28, 29, 30, 31, 32, 33, 34, 35, 36, 37] (by decide +kernel) (by decide +kernel)
set_option maxRecDepth 20000 in
theorem gX11_findsFault_X11_finds : GoodIn wsX11_findsFault (wsV RX11 153 RX11 yX11_finds wsX11_finds) := goodIn_app (goodIn_of _ (by decide +kernel)) ggX11_findsFault_X11_finds
theorem dX11_findsFault_0 : decode cX11_findsFault 0 = .ok (.aload_n 0, 1) := by decide +kernel
theorem dX11_findsFault_1 : decode cX11_findsFault 1 = .ok (.aload_n 0, 1) := by decide +kernel
theorem dX11_findsFault_2 : decode cX11_findsFault 2 = .ok (.getfield 7, 3) := by decide +kernel
theorem dX11_findsFault_5 : decode cX11_findsFault 5 = .ok (.bipush 17, 2) := by decide +kernel
theorem dX11_findsFault_7 : decode cX11_findsFault 7 = .ok (.laload, 1) := by decide +kernel
theorem dX11_findsFault_8 : decode cX11_findsFault 8 = .ok (.iload_n 1, 1) := by decide +kernel
theorem dX11_findsFault_9 : decode cX11_findsFault 9 = .ok (.i2l, 1) := by decide +kernel
theorem dX11_findsFault_10 : decode cX11_findsFault 10 = .ok (.lmul, 1) := by decide +kernel
theorem dX11_findsFault_11 : decode cX11_findsFault 11 = .ok (.ldc2_w 40, 3) := by decide +kernel
theorem dX11_findsFault_14 : decode cX11_findsFault 14 = .ok (.ldiv, 1) := by decide +kernel
theorem dX11_findsFault_15 : decode cX11_findsFault 15 = .ok (.iload_n 2, 1) := by decide +kernel
theorem dX11_findsFault_16 : decode cX11_findsFault 16 = .ok (.i2l, 1) := by decide +kernel
theorem dX11_findsFault_17 : decode cX11_findsFault 17 = .ok (.ladd, 1) := by decide +kernel
theorem dX11_findsFault_18 : decode cX11_findsFault 18 = .ok (.aload_n 0, 1) := by decide +kernel
theorem dX11_findsFault_19 : decode cX11_findsFault 19 = .ok (.getfield 7, 3) := by decide +kernel
theorem dX11_findsFault_22 : decode cX11_findsFault 22 = .ok (.bipush 18, 2) := by decide +kernel
theorem dX11_findsFault_24 : decode cX11_findsFault 24 = .ok (.laload, 1) := by decide +kernel
theorem dX11_findsFault_25 : decode cX11_findsFault 25 = .ok (.iload_n 1, 1) := by decide +kernel
theorem dX11_findsFault_26 : decode cX11_findsFault 26 = .ok (.i2l, 1) := by decide +kernel
theorem dX11_findsFault_27 : decode cX11_findsFault 27 = .ok (.lmul, 1) := by decide +kernel
theorem dX11_findsFault_28 : decode cX11_findsFault 28 = .ok (.ldc2_w 40, 3) := by decide +kernel
theorem dX11_findsFault_31 : decode cX11_findsFault 31 = .ok (.ldiv, 1) := by decide +kernel
theorem dX11_findsFault_32 : decode cX11_findsFault 32 = .ok (.invokevirtual 153, 3) := by decide +kernel
theorem dX11_findsFault_35 : decode cX11_findsFault 35 = .ok (.ireturn, 1) := by decide +kernel
set_option maxRecDepth 20000 in
theorem ggX11_findsHealthy_X11_finds : GoodIn wsX11_findsHealthy wsX11_finds := goodIn_r _ [6, 1, 7, 8, 9, 10, 11, 12, 13, 14, 5, 15, 16, 17, 18, 19, 20, 21, 22, 23, 24, 25, 26, 27, 28, 29, 30, 31, 32, 33, 34, 35, 36, 37] (by decide +kernel) (by decide +kernel)
set_option maxRecDepth 20000 in
theorem gX11_findsHealthy_X11_finds : GoodIn wsX11_findsHealthy (wsV RX11 153 RX11 yX11_finds wsX11_finds) := goodIn_app (goodIn_of _ (by decide +kernel)) ggX11_findsHealthy_X11_finds
theorem dX11_findsHealthy_0 : decode cX11_findsHealthy 0 = .ok (.aload_n 0, 1) := by decide +kernel
theorem dX11_findsHealthy_1 : decode cX11_findsHealthy 1 = .ok (.aload_n 0, 1) := by decide +kernel
theorem dX11_findsHealthy_2 : decode cX11_findsHealthy 2 = .ok (.getfield 7, 3) := by decide +kernel
theorem dX11_findsHealthy_5 : decode cX11_findsHealthy 5 = .ok (.bipush 17, 2) := by decide +kernel
theorem dX11_findsHealthy_7 : decode cX11_findsHealthy 7 = .ok (.laload, 1) := by decide +kernel
theorem dX11_findsHealthy_8 : decode cX11_findsHealthy 8 = .ok (.aload_n 0, 1) := by decide +kernel
theorem dX11_findsHealthy_9 : decode cX11_findsHealthy 9 = .ok (.getfield 7, 3) := by decide +kernel
theorem dX11_findsHealthy_12 : decode cX11_findsHealthy 12 = .ok (.bipush 19, 2) := by decide +kernel
theorem dX11_findsHealthy_14 : decode cX11_findsHealthy 14 = .ok (.laload, 1) := by decide +kernel
theorem dX11_findsHealthy_15 : decode cX11_findsHealthy 15 = .ok (.ladd, 1) := by decide +kernel
theorem dX11_findsHealthy_16 : decode cX11_findsHealthy 16 = .ok (.aload_n 0, 1) := by decide +kernel
theorem dX11_findsHealthy_17 : decode cX11_findsHealthy 17 = .ok (.getfield 7, 3) := by decide +kernel
theorem dX11_findsHealthy_20 : decode cX11_findsHealthy 20 = .ok (.bipush 18, 2) := by decide +kernel
theorem dX11_findsHealthy_22 : decode cX11_findsHealthy 22 = .ok (.laload, 1) := by decide +kernel
theorem dX11_findsHealthy_23 : decode cX11_findsHealthy 23 = .ok (.aload_n 0, 1) := by decide +kernel
theorem dX11_findsHealthy_24 : decode cX11_findsHealthy 24 = .ok (.getfield 7, 3) := by decide +kernel
theorem dX11_findsHealthy_27 : decode cX11_findsHealthy 27 = .ok (.bipush 20, 2) := by decide +kernel
theorem dX11_findsHealthy_29 : decode cX11_findsHealthy 29 = .ok (.laload, 1) := by decide +kernel
theorem dX11_findsHealthy_30 : decode cX11_findsHealthy 30 = .ok (.ladd, 1) := by decide +kernel
theorem dX11_findsHealthy_31 : decode cX11_findsHealthy 31 = .ok (.invokevirtual 153, 3) := by decide +kernel
theorem dX11_findsHealthy_34 : decode cX11_findsHealthy 34 = .ok (.ireturn, 1) := by decide +kernel
set_option maxRecDepth 20000 in
theorem ggX11_applyFound_X11_putFour : GoodIn wsX11_applyFound wsX11_putFour := goodIn_r _ [10, 5, 11, 12, 13, 14, 15, 16, 17, 18, 19, 20, 21, 22, 23, 24, 25, 26, 27, 28, 29, 30] (by decide +kernel) (by decide +kernel)
set_option maxRecDepth 20000 in
theorem gX11_applyFound_X11_putFour : GoodIn wsX11_applyFound (wsV RX11 128 RX11 yX11_putFour wsX11_putFour) := goodIn_app (goodIn_of _ (by decide +kernel)) ggX11_applyFound_X11_putFour
theorem dX11_applyFound_0 : decode cX11_applyFound 0 = .ok (.aload_n 0, 1) := by decide +kernel
theorem dX11_applyFound_1 : decode cX11_applyFound 1 = .ok (.iconst 0, 1) := by decide +kernel
theorem dX11_applyFound_2 : decode cX11_applyFound 2 = .ok (.aload_n 0, 1) := by decide +kernel
theorem dX11_applyFound_3 : decode cX11_applyFound 3 = .ok (.getfield 140, 3) := by decide +kernel
theorem dX11_applyFound_6 : decode cX11_applyFound 6 = .ok (.aload_n 0, 1) := by decide +kernel
theorem dX11_applyFound_7 : decode cX11_applyFound 7 = .ok (.getfield 144, 3) := by decide +kernel
theorem dX11_applyFound_10 : decode cX11_applyFound 10 = .ok (.aload_n 0, 1) := by decide +kernel
theorem dX11_applyFound_11 : decode cX11_applyFound 11 = .ok (.getfield 147, 3) := by decide +kernel
theorem dX11_applyFound_14 : decode cX11_applyFound 14 = .ok (.aload_n 0, 1) := by decide +kernel
theorem dX11_applyFound_15 : decode cX11_applyFound 15 = .ok (.getfield 150, 3) := by decide +kernel
theorem dX11_applyFound_18 : decode cX11_applyFound 18 = .ok (.invokevirtual 128, 3) := by decide +kernel
theorem dX11_applyFound_21 : decode cX11_applyFound 21 = .ok (.aload_n 0, 1) := by decide +kernel
theorem dX11_applyFound_22 : decode cX11_applyFound 22 = .ok (.getfield 7, 3) := by decide +kernel
theorem dX11_applyFound_25 : decode cX11_applyFound 25 = .ok (.iconst 4, 1) := by decide +kernel
theorem dX11_applyFound_26 : decode cX11_applyFound 26 = .ok (.lconst 0, 1) := by decide +kernel
theorem dX11_applyFound_27 : decode cX11_applyFound 27 = .ok (.lastore, 1) := by decide +kernel
theorem dX11_applyFound_28 : decode cX11_applyFound 28 = .ok (.return_, 1) := by decide +kernel
set_option maxRecDepth 20000 in
theorem ggX11_isFault_X11_in : GoodIn wsX11_isFault wsX11_in := goodIn_r _ [6] (by decide +kernel) (by decide +kernel)
set_option maxRecDepth 20000 in
theorem gX11_isFault_X11_in : GoodIn wsX11_isFault (va_wsS RX11 68 yX11_in wsX11_in) := goodIn_app (goodIn_of _ (by decide +kernel)) ggX11_isFault_X11_in
theorem dX11_isFault_0 : decode cX11_isFault 0 = .ok (.iload_n 0, 1) := by decide +kernel
theorem dX11_isFault_1 : decode cX11_isFault 1 = .ok (.i2l, 1) := by decide +kernel
theorem dX11_isFault_2 : decode cX11_isFault 2 = .ok (.lconst 0, 1) := by decide +kernel
theorem dX11_isFault_3 : decode cX11_isFault 3 = .ok (.ldc2_w 40, 3) := by decide +kernel
theorem dX11_isFault_6 : decode cX11_isFault 6 = .ok (.invokestatic 68, 3) := by decide +kernel
theorem dX11_isFault_9 : decode cX11_isFault 9 = .ok (.ifCond .eq 19, 3) := by decide +kernel
theorem dX11_isFault_12 : decode cX11_isFault 12 = .ok (.iload_n 1, 1) := by decide +kernel
theorem dX11_isFault_13 : decode cX11_isFault 13 = .ok (.i2l, 1) := by decide +kernel
theorem dX11_isFault_14 : decode cX11_isFault 14 = .ok (.lconst 0, 1) := by decide +kernel
theorem dX11_isFault_15 : decode cX11_isFault 15 = .ok (.ldc2_w 46, 3) := by decide +kernel
theorem dX11_isFault_18 : decode cX11_isFault 18 = .ok (.invokestatic 68, 3) := by decide +kernel
theorem dX11_isFault_21 : decode cX11_isFault 21 = .ok (.ifCond .eq 7, 3) := by decide +kernel
theorem dX11_isFault_24 : decode cX11_isFault 24 = .ok (.iconst 1, 1) := by decide +kernel
theorem dX11_isFault_25 : decode cX11_isFault 25 = .ok (.goto 4, 3) := by decide +kernel
theorem dX11_isFault_28 : decode cX11_isFault 28 = .ok (.iconst 0, 1) := by decide +kernel
theorem dX11_isFault_29 : decode cX11_isFault 29 = .ok (.ireturn, 1) := by decide +kernel
set_option maxRecDepth 20000 in
theorem ggX11_fault_X11_isFault : GoodIn wsX11_fault wsX11_isFault := goodIn_r _ [5, 6, 7, 8, 9, 4, 10] (by decide +kernel) (by decide +kernel)
set_option maxRecDepth 20000 in
theorem gX11_fault_X11_isFault : GoodIn wsX11_fault (va_wsS RX11 157 yX11_isFault wsX11_isFault) := goodIn_app (goodIn_of _ (by decide +kernel)) ggX11_fault_X11_isFault
set_option maxRecDepth 20000 in
theorem ggX11_fault_X11_findsFault : GoodIn wsX11_fault wsX11_findsFault := goodIn_r _ [14, 1, 6, 15, 16, 17, 4, 18, 19, 20, 21, 22, 23, 24, 25, 26, 7, 27, 36, 37, 38, 39, 40, 41, 42, 43, 44, 45, 46, 47, 48, 49, 50, 51, 52, 53, 54, 55] (by decide +kernel) (by decide +kernel)
set_option maxRecDepth 20000 in
theorem gX11_fault_X11_findsFault : GoodIn wsX11_fault (wsV RX11 160 RX11 yX11_findsFault wsX11_findsFault) := goodIn_app (goodIn_of _ (by decide +kernel)) ggX11_fault_X11_findsFault
set_option maxRecDepth 20000 in
theorem ggX11_fault_X11_applyFound : GoodIn wsX11_fault wsX11_applyFound := goodIn_r _ [31, 20, 21, 22, 23, 1, 32, 33, 34, 4, 35, 36, 37, 38, 39, 40, 41, 42, 43, 44, 45, 46, 47, 48, 49, 50, 51, 52, 53, 54, 55] (by decide +kernel) (by decide +kernel)
set_option maxRecDepth 20000 in
theorem gX11_fault_X11_applyFound : GoodIn wsX11_fault (wsV RX11 163 RX11 yX11_applyFound wsX11_applyFound) := goodIn_app (goodIn_of _ (by decide +kernel)) ggX11_fault_X11_applyFound
theorem dX11_fault_0 : decode cX11_fault 0 = .ok (.iload_n 1, 1) := by decide +kernel
theorem dX11_fault_1 : decode cX11_fault 1 = .ok (.iload_n 2, 1) := by decide +kernel
theorem dX11_fault_2 : decode cX11_fault 2 = .ok (.invokestatic 157, 3) := by decide +kernel
theorem dX11_fault_5 : decode cX11_fault 5 = .ok (.ifCond .ne 6, 3) := by decide +kernel
theorem dX11_fault_8 : decode cX11_fault 8 = .ok (.bipush (-2), 2) := by decide +kernel
theorem dX11_fault_10 : decode cX11_fault 10 = .ok (.ireturn, 1) := by decide +kernel
theorem dX11_fault_11 : decode cX11_fault 11 = .ok (.aload_n 0, 1) := by decide +kernel
theorem dX11_fault_12 : decode cX11_fault 12 = .ok (.iload_n 1, 1) := by decide +kernel
theorem dX11_fault_13 : decode cX11_fault 13 = .ok (.iload_n 2, 1) := by decide +kernel
theorem dX11_fault_14 : decode cX11_fault 14 = .ok (.invokevirtual 160, 3) := by decide +kernel
theorem dX11_fault_17 : decode cX11_fault 17 = .ok (.ifCond .ne 6, 3) := by decide +kernel
theorem dX11_fault_20 : decode cX11_fault 20 = .ok (.bipush (-5), 2) := by decide +kernel
theorem dX11_fault_22 : decode cX11_fault 22 = .ok (.ireturn, 1) := by decide +kernel
theorem dX11_fault_23 : decode cX11_fault 23 = .ok (.aload_n 0, 1) := by decide +kernel
theorem dX11_fault_24 : decode cX11_fault 24 = .ok (.invokevirtual 163, 3) := by decide +kernel
theorem dX11_fault_27 : decode cX11_fault 27 = .ok (.aload_n 0, 1) := by decide +kernel
theorem dX11_fault_28 : decode cX11_fault 28 = .ok (.getfield 7, 3) := by decide +kernel
theorem dX11_fault_31 : decode cX11_fault 31 = .ok (.bipush 35, 2) := by decide +kernel
theorem dX11_fault_33 : decode cX11_fault 33 = .ok (.laload, 1) := by decide +kernel
theorem dX11_fault_34 : decode cX11_fault 34 = .ok (.l2i, 1) := by decide +kernel
theorem dX11_fault_35 : decode cX11_fault 35 = .ok (.ireturn, 1) := by decide +kernel
set_option maxRecDepth 20000 in
theorem ggX11_healthy_X11_findsHealthy : GoodIn wsX11_healthy wsX11_findsHealthy := goodIn_r _ [6, 1, 7, 8, 9, 5, 10, 11, 12, 13, 14, 15, 16, 17, 18, 19, 20, 21, 30, 31, 32, 33, 34, 35, 36, 37, 38, 39, 40, 41, 42, 43, 44, 45, 46, 47, 48, 49] (by decide +kernel) (by decide +kernel)
set_option maxRecDepth 20000 in
theorem gX11_healthy_X11_findsHealthy : GoodIn wsX11_healthy (wsV RX11 166 RX11 yX11_findsHealthy wsX11_findsHealthy) := goodIn_app (goodIn_of _ (by decide +kernel)) ggX11_healthy_X11_findsHealthy
set_option maxRecDepth 20000 in
theorem ggX11_healthy_X11_applyFound : GoodIn wsX11_healthy wsX11_applyFound := goodIn_r _ [25, 13, 14, 15, 16, 1, 26, 27, 28, 5, 29, 30, 31, 32, 33, 34, 35, 36, 37, 38, 39, 40, 41, 42, 43, 44, 45, 46, 47, 48, 49] (by decide +kernel) (by decide +kernel)
set_option maxRecDepth 20000 in
theorem gX11_healthy_X11_applyFound : GoodIn wsX11_healthy (wsV RX11 163 RX11 yX11_applyFound wsX11_applyFound) := goodIn_app (goodIn_of _ (by decide +kernel)) ggX11_healthy_X11_applyFound
theorem dX11_healthy_0 : decode cX11_healthy 0 = .ok (.aload_n 0, 1) := by decide +kernel
theorem dX11_healthy_1 : decode cX11_healthy 1 = .ok (.invokevirtual 166, 3) := by decide +kernel
theorem dX11_healthy_4 : decode cX11_healthy 4 = .ok (.ifCond .ne 6, 3) := by decide +kernel
theorem dX11_healthy_7 : decode cX11_healthy 7 = .ok (.bipush (-5), 2) := by decide +kernel
theorem dX11_healthy_9 : decode cX11_healthy 9 = .ok (.ireturn, 1) := by decide +kernel
theorem dX11_healthy_10 : decode cX11_healthy 10 = .ok (.aload_n 0, 1) := by decide +kernel
theorem dX11_healthy_11 : decode cX11_healthy 11 = .ok (.invokevirtual 163, 3) := by decide +kernel
theorem dX11_healthy_14 : decode cX11_healthy 14 = .ok (.aload_n 0, 1) := by decide +kernel
theorem dX11_healthy_15 : decode cX11_healthy 15 = .ok (.getfield 7, 3) := by decide +kernel
theorem dX11_healthy_18 : decode cX11_healthy 18 = .ok (.bipush 35, 2) := by decide +kernel
theorem dX11_healthy_20 : decode cX11_healthy 20 = .ok (.laload, 1) := by decide +kernel
theorem dX11_healthy_21 : decode cX11_healthy 21 = .ok (.l2i, 1) := by decide +kernel
theorem dX11_healthy_22 : decode cX11_healthy 22 = .ok (.ireturn, 1) := by decide +kernel
set_option maxRecDepth 20000 in
theorem ggX11_phasor_X11_in : GoodIn wsX11_phasor wsX11_in := goodIn_r _ [7] (by decide +kernel) (by decide +kernel)
set_option maxRecDepth 20000 in
theorem gX11_phasor_X11_in : GoodIn wsX11_phasor (va_wsS RX11 68 yX11_in wsX11_in) := goodIn_app (goodIn_of _ (by decide +kernel)) ggX11_phasor_X11_in
theorem dX11_phasor_0 : decode cX11_phasor 0 = .ok (.iload_n 1, 1) := by decide +kernel
theorem dX11_phasor_1 : decode cX11_phasor 1 = .ok (.i2l, 1) := by decide +kernel
theorem dX11_phasor_2 : decode cX11_phasor 2 = .ok (.lconst 0, 1) := by decide +kernel
theorem dX11_phasor_3 : decode cX11_phasor 3 = .ok (.ldc2_w 54, 3) := by decide +kernel
theorem dX11_phasor_6 : decode cX11_phasor 6 = .ok (.invokestatic 68, 3) := by decide +kernel
theorem dX11_phasor_9 : decode cX11_phasor 9 = .ok (.ifCond .eq 14, 3) := by decide +kernel
theorem dX11_phasor_12 : decode cX11_phasor 12 = .ok (.aload_n 0, 1) := by decide +kernel
theorem dX11_phasor_13 : decode cX11_phasor 13 = .ok (.getfield 7, 3) := by decide +kernel
theorem dX11_phasor_16 : decode cX11_phasor 16 = .ok (.iconst 0, 1) := by decide +kernel
theorem dX11_phasor_17 : decode cX11_phasor 17 = .ok (.iload_n 1, 1) := by decide +kernel
theorem dX11_phasor_18 : decode cX11_phasor 18 = .ok (.iadd, 1) := by decide +kernel
theorem dX11_phasor_19 : decode cX11_phasor 19 = .ok (.laload, 1) := by decide +kernel
theorem dX11_phasor_20 : decode cX11_phasor 20 = .ok (.goto 6, 3) := by decide +kernel
theorem dX11_phasor_23 : decode cX11_phasor 23 = .ok (.ldc2_w 170, 3) := by decide +kernel
