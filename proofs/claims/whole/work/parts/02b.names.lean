theorem dX4_countTurnsOfY_55 : decode cX4_countTurnsOfY 55 = .ok (.iload_n 3, 1) := by decide +kernel
theorem dX4_countTurnsOfY_56 : decode cX4_countTurnsOfY 56 = .ok (.aload_n 0, 1) := by decide +kernel
theorem dX4_countTurnsOfY_57 : decode cX4_countTurnsOfY 57 = .ok (.getfield 28, 3) := by decide +kernel
theorem dX4_countTurnsOfY_60 : decode cX4_countTurnsOfY 60 = .ok (.if_icmp .ge 47, 3) := by decide +kernel
theorem dX4_countTurnsOfY_63 : decode cX4_countTurnsOfY 63 = .ok (.aload_n 0, 1) := by decide +kernel
theorem dX4_countTurnsOfY_64 : decode cX4_countTurnsOfY 64 = .ok (.getfield 15, 3) := by decide +kernel
theorem dX4_countTurnsOfY_67 : decode cX4_countTurnsOfY 67 = .ok (.aload_n 0, 1) := by decide +kernel
theorem dX4_countTurnsOfY_68 : decode cX4_countTurnsOfY 68 = .ok (.iload_n 3, 1) := by decide +kernel
theorem dX4_countTurnsOfY_69 : decode cX4_countTurnsOfY 69 = .ok (.invokevirtual 35, 3) := by decide +kernel
theorem dX4_countTurnsOfY_72 : decode cX4_countTurnsOfY 72 = .ok (.iaload, 1) := by decide +kernel
theorem dX4_countTurnsOfY_73 : decode cX4_countTurnsOfY 73 = .ok (.aload_n 0, 1) := by decide +kernel
theorem dX4_countTurnsOfY_74 : decode cX4_countTurnsOfY 74 = .ok (.getfield 15, 3) := by decide +kernel
theorem dX4_countTurnsOfY_77 : decode cX4_countTurnsOfY 77 = .ok (.iload_n 3, 1) := by decide +kernel
theorem dX4_countTurnsOfY_78 : decode cX4_countTurnsOfY 78 = .ok (.iaload, 1) := by decide +kernel
theorem dX4_countTurnsOfY_79 : decode cX4_countTurnsOfY 79 = .ok (.invokestatic 59, 3) := by decide +kernel
theorem dX4_countTurnsOfY_82 : decode cX4_countTurnsOfY 82 = .ok (.istore 4, 2) := by decide +kernel
theorem dX4_countTurnsOfY_84 : decode cX4_countTurnsOfY 84 = .ok (.iload 4, 2) := by decide +kernel
theorem dX4_countTurnsOfY_86 : decode cX4_countTurnsOfY 86 = .ok (.ifCond .eq 15, 3) := by decide +kernel
theorem dX4_countTurnsOfY_89 : decode cX4_countTurnsOfY 89 = .ok (.iload 4, 2) := by decide +kernel
theorem dX4_countTurnsOfY_91 : decode cX4_countTurnsOfY 91 = .ok (.iload_n 2, 1) := by decide +kernel
theorem dX4_countTurnsOfY_92 : decode cX4_countTurnsOfY 92 = .ok (.if_icmp .eq 9, 3) := by decide +kernel
theorem dX4_countTurnsOfY_95 : decode cX4_countTurnsOfY 95 = .ok (.iinc 1 1, 3) := by decide +kernel
theorem dX4_countTurnsOfY_98 : decode cX4_countTurnsOfY 98 = .ok (.iload 4, 2) := by decide +kernel
theorem dX4_countTurnsOfY_100 : decode cX4_countTurnsOfY 100 = .ok (.istore_n 2, 1) := by decide +kernel
theorem dX4_countTurnsOfY_101 : decode cX4_countTurnsOfY 101 = .ok (.iinc 3 1, 3) := by decide +kernel
theorem dX4_countTurnsOfY_104 : decode cX4_countTurnsOfY 104 = .ok (.goto (-49), 3) := by decide +kernel
theorem dX4_countTurnsOfY_107 : decode cX4_countTurnsOfY 107 = .ok (.iload_n 1, 1) := by decide +kernel
theorem dX4_countTurnsOfY_108 : decode cX4_countTurnsOfY 108 = .ok (.ireturn, 1) := by decide +kernel
theorem dX4_after_0 : decode cX4_after 0 = .ok (.iload_n 1, 1) := by decide +kernel
theorem dX4_after_1 : decode cX4_after 1 = .ok (.iconst 1, 1) := by decide +kernel
theorem dX4_after_2 : decode cX4_after 2 = .ok (.iadd, 1) := by decide +kernel
theorem dX4_after_3 : decode cX4_after 3 = .ok (.aload_n 0, 1) := by decide +kernel
theorem dX4_after_4 : decode cX4_after 4 = .ok (.getfield 28, 3) := by decide +kernel
theorem dX4_after_7 : decode cX4_after 7 = .ok (.if_icmp .ge 9, 3) := by decide +kernel
theorem dX4_after_10 : decode cX4_after 10 = .ok (.iload_n 1, 1) := by decide +kernel
theorem dX4_after_11 : decode cX4_after 11 = .ok (.iconst 1, 1) := by decide +kernel
theorem dX4_after_12 : decode cX4_after 12 = .ok (.iadd, 1) := by decide +kernel
theorem dX4_after_13 : decode cX4_after 13 = .ok (.goto 4, 3) := by decide +kernel
theorem dX4_after_16 : decode cX4_after 16 = .ok (.iconst 0, 1) := by decide +kernel
theorem dX4_after_17 : decode cX4_after 17 = .ok (.ireturn, 1) := by decide +kernel
theorem dX5_init_0 : decode cX5_init 0 = .ok (.aload_n 0, 1) := by decide +kernel
theorem dX5_init_1 : decode cX5_init 1 = .ok (.invokespecial 3, 3) := by decide +kernel
theorem dX5_init_4 : decode cX5_init 4 = .ok (.aload_n 0, 1) := by decide +kernel
theorem dX5_init_5 : decode cX5_init 5 = .ok (.bipush 8, 2) := by decide +kernel
theorem dX5_init_7 : decode cX5_init 7 = .ok (.newarray .int, 2) := by decide +kernel
theorem dX5_init_9 : decode cX5_init 9 = .ok (.putfield 9, 3) := by decide +kernel
theorem dX5_init_12 : decode cX5_init 12 = .ok (.aload_n 0, 1) := by decide +kernel
theorem dX5_init_13 : decode cX5_init 13 = .ok (.bipush 8, 2) := by decide +kernel
theorem dX5_init_15 : decode cX5_init 15 = .ok (.newarray .int, 2) := by decide +kernel
theorem dX5_init_17 : decode cX5_init 17 = .ok (.putfield 15, 3) := by decide +kernel
theorem dX5_init_20 : decode cX5_init 20 = .ok (.return_, 1) := by decide +kernel
set_option maxRecDepth 20000 in
theorem ggX5_findFlaw_X5_startNumber : GoodIn wsX5_findFlaw wsX5_startNumber := goodIn_r _ [8, 9, 3, 10, 89, 90, 91, 92, 93, 94, 95] (by decide +kernel) (by decide +kernel)
set_option maxRecDepth 20000 in
theorem gX5_findFlaw_X5_startNumber : GoodIn wsX5_findFlaw (wsV RX5 26 RX5 yX5_startNumber wsX5_startNumber) := goodIn_app (goodIn_of _ (by decide +kernel)) ggX5_findFlaw_X5_startNumber
set_option maxRecDepth 20000 in
theorem ggX5_findFlaw_J4_length_8abf5 : GoodIn wsX5_findFlaw wsJ4_length_8abf5 := goodIn_r _ [15, 16, 17, 18, 19, 20, 21, 22, 96, 97, 98, 99] (by decide +kernel) (by decide +kernel)
set_option maxRecDepth 20000 in
theorem gX5_findFlaw_J4_length_8abf5 : GoodIn wsX5_findFlaw (wsV RX5 29 RJ4 yJ4_length_8abf5 wsJ4_length_8abf5) := goodIn_app (goodIn_of _ (by decide +kernel)) ggX5_findFlaw_J4_length_8abf5
set_option maxRecDepth 20000 in
theorem ggX5_findFlaw_J4_charAt_5068e : GoodIn wsX5_findFlaw wsJ4_charAt_5068e := goodIn_r _ [26, 27, 28, 18, 29, 20, 30, 31, 32, 22, 33, 34, 35, 36, 37, 38, 39, 40, 41, 42, 43, 44, 45, 46, 47, 48, 49, 50, 51, 52, 53, 54, 55, 96, 97, 98, 99] (by decide +kernel) (by decide +kernel)
set_option maxRecDepth 20000 in
theorem gX5_findFlaw_J4_charAt_5068e : GoodIn wsX5_findFlaw (wsV RX5 35 RJ4 yJ4_charAt_5068e wsJ4_charAt_5068e) := goodIn_app (goodIn_of _ (by decide +kernel)) ggX5_findFlaw_J4_charAt_5068e
set_option maxRecDepth 20000 in
theorem ggX5_findFlaw_X5_takes : GoodIn wsX5_findFlaw wsX5_takes := goodIn_r _ [59, 60, 61, 62, 7, 63, 9, 3, 64, 65, 66, 67, 2, 1, 68, 69, 70, 71, 72, 10, 4, 5, 6, 8, 73, 74, 75, 76, 77, 78, 79, 80, 81, 82, 83, 84, 85, 86, 87, 88, 89, 90, 91, 92, 93, 94, 95] (by decide +kernel) (by decide +kernel)
set_option maxRecDepth 20000 in
theorem gX5_findFlaw_X5_takes : GoodIn wsX5_findFlaw (wsV RX5 39 RX5 yX5_takes wsX5_takes) := goodIn_app (goodIn_of _ (by decide +kernel)) ggX5_findFlaw_X5_takes
set_option maxRecDepth 20000 in
theorem ggX5_findFlaw_X5_endCorner : GoodIn wsX5_findFlaw wsX5_endCorner := goodIn_r _ [80, 1, 81, 2, 69, 70, 71, 7, 72, 9, 10, 4, 5, 6, 8, 3, 89, 90, 91, 92, 93, 94, 95] (by decide +kernel) (by decide +kernel)
set_option maxRecDepth 20000 in
theorem gX5_findFlaw_X5_endCorner : GoodIn wsX5_findFlaw (wsV RX5 46 RX5 yX5_endCorner wsX5_endCorner) := goodIn_app (goodIn_of _ (by decide +kernel)) ggX5_findFlaw_X5_endCorner
theorem dX5_findFlaw_0 : decode cX5_findFlaw 0 = .ok (.aload_n 0, 1) := by decide +kernel
theorem dX5_findFlaw_1 : decode cX5_findFlaw 1 = .ok (.iconst 0, 1) := by decide +kernel
theorem dX5_findFlaw_2 : decode cX5_findFlaw 2 = .ok (.putfield 18, 3) := by decide +kernel
theorem dX5_findFlaw_5 : decode cX5_findFlaw 5 = .ok (.aload_n 0, 1) := by decide +kernel
theorem dX5_findFlaw_6 : decode cX5_findFlaw 6 = .ok (.iconst 0, 1) := by decide +kernel
theorem dX5_findFlaw_7 : decode cX5_findFlaw 7 = .ok (.putfield 22, 3) := by decide +kernel
theorem dX5_findFlaw_10 : decode cX5_findFlaw 10 = .ok (.aload_n 0, 1) := by decide +kernel
theorem dX5_findFlaw_11 : decode cX5_findFlaw 11 = .ok (.invokevirtual 26, 3) := by decide +kernel
theorem dX5_findFlaw_14 : decode cX5_findFlaw 14 = .ok (.iconst 0, 1) := by decide +kernel
theorem dX5_findFlaw_15 : decode cX5_findFlaw 15 = .ok (.istore_n 2, 1) := by decide +kernel
theorem dX5_findFlaw_16 : decode cX5_findFlaw 16 = .ok (.iload_n 2, 1) := by decide +kernel
theorem dX5_findFlaw_17 : decode cX5_findFlaw 17 = .ok (.aload_n 1, 1) := by decide +kernel
theorem dX5_findFlaw_18 : decode cX5_findFlaw 18 = .ok (.invokevirtual 29, 3) := by decide +kernel
theorem dX5_findFlaw_21 : decode cX5_findFlaw 21 = .ok (.if_icmp .ge 23, 3) := by decide +kernel
theorem dX5_findFlaw_24 : decode cX5_findFlaw 24 = .ok (.aload_n 0, 1) := by decide +kernel
theorem dX5_findFlaw_25 : decode cX5_findFlaw 25 = .ok (.aload_n 1, 1) := by decide +kernel
theorem dX5_findFlaw_26 : decode cX5_findFlaw 26 = .ok (.iload_n 2, 1) := by decide +kernel
theorem dX5_findFlaw_27 : decode cX5_findFlaw 27 = .ok (.invokevirtual 35, 3) := by decide +kernel
theorem dX5_findFlaw_30 : decode cX5_findFlaw 30 = .ok (.invokevirtual 39, 3) := by decide +kernel
theorem dX5_findFlaw_33 : decode cX5_findFlaw 33 = .ok (.ifCond .ne 5, 3) := by decide +kernel
theorem dX5_findFlaw_36 : decode cX5_findFlaw 36 = .ok (.iload_n 2, 1) := by decide +kernel
theorem dX5_findFlaw_37 : decode cX5_findFlaw 37 = .ok (.ireturn, 1) := by decide +kernel
theorem dX5_findFlaw_38 : decode cX5_findFlaw 38 = .ok (.iinc 2 1, 3) := by decide +kernel
theorem dX5_findFlaw_41 : decode cX5_findFlaw 41 = .ok (.goto (-25), 3) := by decide +kernel
theorem dX5_findFlaw_44 : decode cX5_findFlaw 44 = .ok (.aload_n 0, 1) := by decide +kernel
theorem dX5_findFlaw_45 : decode cX5_findFlaw 45 = .ok (.getfield 22, 3) := by decide +kernel
theorem dX5_findFlaw_48 : decode cX5_findFlaw 48 = .ok (.ifCond .eq 10, 3) := by decide +kernel
theorem dX5_findFlaw_51 : decode cX5_findFlaw 51 = .ok (.aload_n 0, 1) := by decide +kernel
theorem dX5_findFlaw_52 : decode cX5_findFlaw 52 = .ok (.getfield 43, 3) := by decide +kernel
theorem dX5_findFlaw_55 : decode cX5_findFlaw 55 = .ok (.ifCond .ne 8, 3) := by decide +kernel
theorem dX5_findFlaw_58 : decode cX5_findFlaw 58 = .ok (.aload_n 1, 1) := by decide +kernel
theorem dX5_findFlaw_59 : decode cX5_findFlaw 59 = .ok (.invokevirtual 29, 3) := by decide +kernel
theorem dX5_findFlaw_62 : decode cX5_findFlaw 62 = .ok (.ireturn, 1) := by decide +kernel
theorem dX5_findFlaw_63 : decode cX5_findFlaw 63 = .ok (.aload_n 0, 1) := by decide +kernel
theorem dX5_findFlaw_64 : decode cX5_findFlaw 64 = .ok (.invokevirtual 46, 3) := by decide +kernel
theorem dX5_findFlaw_67 : decode cX5_findFlaw 67 = .ok (.bipush (-6), 2) := by decide +kernel
theorem dX5_findFlaw_69 : decode cX5_findFlaw 69 = .ok (.ireturn, 1) := by decide +kernel
set_option maxRecDepth 20000 in
theorem ggX5_takes_X5_takesMinus : GoodIn wsX5_takes wsX5_takesMinus := goodIn_r _ [5, 6, 7, 40, 41, 42, 43, 44, 45, 46] (by decide +kernel) (by decide +kernel)
set_option maxRecDepth 20000 in
theorem gX5_takes_X5_takesMinus : GoodIn wsX5_takes (wsV RX5 49 RX5 yX5_takesMinus wsX5_takesMinus) := goodIn_app (goodIn_of _ (by decide +kernel)) ggX5_takes_X5_takesMinus
set_option maxRecDepth 20000 in
theorem ggX5_takes_X5_takesComma : GoodIn wsX5_takes wsX5_takesComma := goodIn_r _ [11, 12, 7, 13, 14, 15, 16, 17, 4, 18, 6, 19, 20, 21, 22, 23, 40, 41, 42, 43, 44, 45, 46] (by decide +kernel) (by decide +kernel)
set_option maxRecDepth 20000 in
theorem gX5_takes_X5_takesComma : GoodIn wsX5_takes (wsV RX5 53 RX5 yX5_takesComma wsX5_takesComma) := goodIn_app (goodIn_of _ (by decide +kernel)) ggX5_takes_X5_takesComma
set_option maxRecDepth 20000 in
theorem ggX5_takes_X5_takesSlash : GoodIn wsX5_takes wsX5_takesSlash := goodIn_r _ [27, 12, 7, 13, 28, 29, 30, 4, 31, 32, 15, 16, 17, 18, 6, 19, 20, 21, 22, 23, 40, 41, 42, 43, 44, 45, 46] (by decide +kernel) (by decide +kernel)
set_option maxRecDepth 20000 in
theorem gX5_takes_X5_takesSlash : GoodIn wsX5_takes (wsV RX5 56 RX5 yX5_takesSlash wsX5_takesSlash) := goodIn_app (goodIn_of _ (by decide +kernel)) ggX5_takes_X5_takesSlash
set_option maxRecDepth 20000 in
theorem ggX5_takes_X5_takesDigit : GoodIn wsX5_takes wsX5_takesDigit := goodIn_r _ [36, 7, 19, 37, 38, 39, 40, 41, 42, 43, 44, 45, 46] (by decide +kernel) (by decide +kernel)
set_option maxRecDepth 20000 in
theorem gX5_takes_X5_takesDigit : GoodIn wsX5_takes (wsV RX5 59 RX5 yX5_takesDigit wsX5_takesDigit) := goodIn_app (goodIn_of _ (by decide +kernel)) ggX5_takes_X5_takesDigit
theorem dX5_takes_0 : decode cX5_takes 0 = .ok (.iload_n 1, 1) := by decide +kernel
theorem dX5_takes_1 : decode cX5_takes 1 = .ok (.bipush 45, 2) := by decide +kernel
theorem dX5_takes_3 : decode cX5_takes 3 = .ok (.if_icmp .ne 8, 3) := by decide +kernel
theorem dX5_takes_6 : decode cX5_takes 6 = .ok (.aload_n 0, 1) := by decide +kernel
theorem dX5_takes_7 : decode cX5_takes 7 = .ok (.invokevirtual 49, 3) := by decide +kernel
theorem dX5_takes_10 : decode cX5_takes 10 = .ok (.ireturn, 1) := by decide +kernel
theorem dX5_takes_11 : decode cX5_takes 11 = .ok (.iload_n 1, 1) := by decide +kernel
theorem dX5_takes_12 : decode cX5_takes 12 = .ok (.bipush 44, 2) := by decide +kernel
theorem dX5_takes_14 : decode cX5_takes 14 = .ok (.if_icmp .ne 8, 3) := by decide +kernel
theorem dX5_takes_17 : decode cX5_takes 17 = .ok (.aload_n 0, 1) := by decide +kernel
theorem dX5_takes_18 : decode cX5_takes 18 = .ok (.invokevirtual 53, 3) := by decide +kernel
theorem dX5_takes_21 : decode cX5_takes 21 = .ok (.ireturn, 1) := by decide +kernel
theorem dX5_takes_22 : decode cX5_takes 22 = .ok (.iload_n 1, 1) := by decide +kernel
theorem dX5_takes_23 : decode cX5_takes 23 = .ok (.bipush 47, 2) := by decide +kernel
theorem dX5_takes_25 : decode cX5_takes 25 = .ok (.if_icmp .ne 8, 3) := by decide +kernel
theorem dX5_takes_28 : decode cX5_takes 28 = .ok (.aload_n 0, 1) := by decide +kernel
theorem dX5_takes_29 : decode cX5_takes 29 = .ok (.invokevirtual 56, 3) := by decide +kernel
theorem dX5_takes_32 : decode cX5_takes 32 = .ok (.ireturn, 1) := by decide +kernel
theorem dX5_takes_33 : decode cX5_takes 33 = .ok (.aload_n 0, 1) := by decide +kernel
theorem dX5_takes_34 : decode cX5_takes 34 = .ok (.iload_n 1, 1) := by decide +kernel
theorem dX5_takes_35 : decode cX5_takes 35 = .ok (.bipush 48, 2) := by decide +kernel
theorem dX5_takes_37 : decode cX5_takes 37 = .ok (.isub, 1) := by decide +kernel
theorem dX5_takes_38 : decode cX5_takes 38 = .ok (.invokevirtual 59, 3) := by decide +kernel
theorem dX5_takes_41 : decode cX5_takes 41 = .ok (.ireturn, 1) := by decide +kernel
theorem dX5_takesMinus_0 : decode cX5_takesMinus 0 = .ok (.aload_n 0, 1) := by decide +kernel
theorem dX5_takesMinus_1 : decode cX5_takesMinus 1 = .ok (.getfield 63, 3) := by decide +kernel
theorem dX5_takesMinus_4 : decode cX5_takesMinus 4 = .ok (.ifCond .ne 10, 3) := by decide +kernel
theorem dX5_takesMinus_7 : decode cX5_takesMinus 7 = .ok (.aload_n 0, 1) := by decide +kernel
theorem dX5_takesMinus_8 : decode cX5_takesMinus 8 = .ok (.getfield 43, 3) := by decide +kernel
theorem dX5_takesMinus_11 : decode cX5_takesMinus 11 = .ok (.ifCond .le 5, 3) := by decide +kernel
theorem dX5_takesMinus_14 : decode cX5_takesMinus 14 = .ok (.iconst 0, 1) := by decide +kernel
theorem dX5_takesMinus_15 : decode cX5_takesMinus 15 = .ok (.ireturn, 1) := by decide +kernel
theorem dX5_takesMinus_16 : decode cX5_takesMinus 16 = .ok (.aload_n 0, 1) := by decide +kernel
theorem dX5_takesMinus_17 : decode cX5_takesMinus 17 = .ok (.iconst 1, 1) := by decide +kernel
theorem dX5_takesMinus_18 : decode cX5_takesMinus 18 = .ok (.putfield 63, 3) := by decide +kernel
theorem dX5_takesMinus_21 : decode cX5_takesMinus 21 = .ok (.iconst 1, 1) := by decide +kernel
theorem dX5_takesMinus_22 : decode cX5_takesMinus 22 = .ok (.ireturn, 1) := by decide +kernel
set_option maxRecDepth 20000 in
theorem ggX5_takesComma_X5_number : GoodIn wsX5_takesComma wsX5_number := goodIn_r _ [9, 10, 11, 16, 17, 18, 19, 20, 21, 22] (by decide +kernel) (by decide +kernel)
set_option maxRecDepth 20000 in
theorem gX5_takesComma_X5_number : GoodIn wsX5_takesComma (wsV RX5 66 RX5 yX5_number wsX5_number) := goodIn_app (goodIn_of _ (by decide +kernel)) ggX5_takesComma_X5_number
set_option maxRecDepth 20000 in
theorem ggX5_takesComma_X5_startNumber : GoodIn wsX5_takesComma wsX5_startNumber := goodIn_r _ [15, 10, 2, 11, 16, 17, 18, 19, 20, 21, 22] (by decide +kernel) (by decide +kernel)
set_option maxRecDepth 20000 in
theorem gX5_takesComma_X5_startNumber : GoodIn wsX5_takesComma (wsV RX5 26 RX5 yX5_startNumber wsX5_startNumber) := goodIn_app (goodIn_of _ (by decide +kernel)) ggX5_takesComma_X5_startNumber
theorem dX5_takesComma_0 : decode cX5_takesComma 0 = .ok (.aload_n 0, 1) := by decide +kernel
theorem dX5_takesComma_1 : decode cX5_takesComma 1 = .ok (.getfield 22, 3) := by decide +kernel
theorem dX5_takesComma_4 : decode cX5_takesComma 4 = .ok (.ifCond .ne 19, 3) := by decide +kernel
theorem dX5_takesComma_7 : decode cX5_takesComma 7 = .ok (.aload_n 0, 1) := by decide +kernel
theorem dX5_takesComma_8 : decode cX5_takesComma 8 = .ok (.getfield 43, 3) := by decide +kernel
theorem dX5_takesComma_11 : decode cX5_takesComma 11 = .ok (.ifCond .eq 12, 3) := by decide +kernel
theorem dX5_takesComma_14 : decode cX5_takesComma 14 = .ok (.aload_n 0, 1) := by decide +kernel
theorem dX5_takesComma_15 : decode cX5_takesComma 15 = .ok (.getfield 18, 3) := by decide +kernel
theorem dX5_takesComma_18 : decode cX5_takesComma 18 = .ok (.bipush 8, 2) := by decide +kernel
theorem dX5_takesComma_20 : decode cX5_takesComma 20 = .ok (.if_icmp .lt 5, 3) := by decide +kernel
theorem dX5_takesComma_23 : decode cX5_takesComma 23 = .ok (.iconst 0, 1) := by decide +kernel
theorem dX5_takesComma_24 : decode cX5_takesComma 24 = .ok (.ireturn, 1) := by decide +kernel
theorem dX5_takesComma_25 : decode cX5_takesComma 25 = .ok (.aload_n 0, 1) := by decide +kernel
theorem dX5_takesComma_26 : decode cX5_takesComma 26 = .ok (.getfield 9, 3) := by decide +kernel
theorem dX5_takesComma_29 : decode cX5_takesComma 29 = .ok (.aload_n 0, 1) := by decide +kernel
theorem dX5_takesComma_30 : decode cX5_takesComma 30 = .ok (.getfield 18, 3) := by decide +kernel
theorem dX5_takesComma_33 : decode cX5_takesComma 33 = .ok (.aload_n 0, 1) := by decide +kernel
theorem dX5_takesComma_34 : decode cX5_takesComma 34 = .ok (.invokevirtual 66, 3) := by decide +kernel
theorem dX5_takesComma_37 : decode cX5_takesComma 37 = .ok (.iastore, 1) := by decide +kernel
theorem dX5_takesComma_38 : decode cX5_takesComma 38 = .ok (.aload_n 0, 1) := by decide +kernel
theorem dX5_takesComma_39 : decode cX5_takesComma 39 = .ok (.iconst 1, 1) := by decide +kernel
theorem dX5_takesComma_40 : decode cX5_takesComma 40 = .ok (.putfield 22, 3) := by decide +kernel
theorem dX5_takesComma_43 : decode cX5_takesComma 43 = .ok (.aload_n 0, 1) := by decide +kernel
theorem dX5_takesComma_44 : decode cX5_takesComma 44 = .ok (.invokevirtual 26, 3) := by decide +kernel
theorem dX5_takesComma_47 : decode cX5_takesComma 47 = .ok (.iconst 1, 1) := by decide +kernel
theorem dX5_takesComma_48 : decode cX5_takesComma 48 = .ok (.ireturn, 1) := by decide +kernel
set_option maxRecDepth 20000 in
theorem ggX5_takesSlash_X5_endCorner : GoodIn wsX5_takesSlash wsX5_endCorner := goodIn_r _ [8, 3, 9, 1, 10, 11, 12, 7, 13, 14, 15, 16, 17, 18, 19, 2, 20, 21, 22, 23, 24, 25, 26] (by decide +kernel) (by decide +kernel)
set_option maxRecDepth 20000 in
theorem gX5_takesSlash_X5_endCorner : GoodIn wsX5_takesSlash (wsV RX5 46 RX5 yX5_endCorner wsX5_endCorner) := goodIn_app (goodIn_of _ (by decide +kernel)) ggX5_takesSlash_X5_endCorner
theorem dX5_takesSlash_0 : decode cX5_takesSlash 0 = .ok (.aload_n 0, 1) := by decide +kernel
theorem dX5_takesSlash_1 : decode cX5_takesSlash 1 = .ok (.getfield 22, 3) := by decide +kernel
theorem dX5_takesSlash_4 : decode cX5_takesSlash 4 = .ok (.ifCond .eq 19, 3) := by decide +kernel
theorem dX5_takesSlash_7 : decode cX5_takesSlash 7 = .ok (.aload_n 0, 1) := by decide +kernel
theorem dX5_takesSlash_8 : decode cX5_takesSlash 8 = .ok (.getfield 43, 3) := by decide +kernel
theorem dX5_takesSlash_11 : decode cX5_takesSlash 11 = .ok (.ifCond .eq 12, 3) := by decide +kernel
theorem dX5_takesSlash_14 : decode cX5_takesSlash 14 = .ok (.aload_n 0, 1) := by decide +kernel
theorem dX5_takesSlash_15 : decode cX5_takesSlash 15 = .ok (.getfield 18, 3) := by decide +kernel
theorem dX5_takesSlash_18 : decode cX5_takesSlash 18 = .ok (.bipush 7, 2) := by decide +kernel
theorem dX5_takesSlash_20 : decode cX5_takesSlash 20 = .ok (.if_icmp .lt 5, 3) := by decide +kernel
theorem dX5_takesSlash_23 : decode cX5_takesSlash 23 = .ok (.iconst 0, 1) := by decide +kernel
theorem dX5_takesSlash_24 : decode cX5_takesSlash 24 = .ok (.ireturn, 1) := by decide +kernel
theorem dX5_takesSlash_25 : decode cX5_takesSlash 25 = .ok (.aload_n 0, 1) := by decide +kernel
theorem dX5_takesSlash_26 : decode cX5_takesSlash 26 = .ok (.invokevirtual 46, 3) := by decide +kernel
theorem dX5_takesSlash_29 : decode cX5_takesSlash 29 = .ok (.iconst 1, 1) := by decide +kernel
theorem dX5_takesSlash_30 : decode cX5_takesSlash 30 = .ok (.ireturn, 1) := by decide +kernel
set_option maxRecDepth 20000 in
theorem ggX5_takesDigit_X10_outside : GoodIn wsX5_takesDigit wsX10_outside := goodIn_r _ [5] (by decide +kernel) (by decide +kernel)
set_option maxRecDepth 20000 in
theorem gX5_takesDigit_X10_outside_n72 : GoodIn wsX5_takesDigit (wsX10_outside) := ggX5_takesDigit_X10_outside
theorem dX5_takesDigit_0 : decode cX5_takesDigit 0 = .ok (.aload_n 0, 1) := by decide +kernel
theorem dX5_takesDigit_1 : decode cX5_takesDigit 1 = .ok (.getfield 43, 3) := by decide +kernel
theorem dX5_takesDigit_4 : decode cX5_takesDigit 4 = .ok (.ifCond .le 14, 3) := by decide +kernel
theorem dX5_takesDigit_7 : decode cX5_takesDigit 7 = .ok (.aload_n 0, 1) := by decide +kernel
theorem dX5_takesDigit_8 : decode cX5_takesDigit 8 = .ok (.getfield 69, 3) := by decide +kernel
theorem dX5_takesDigit_11 : decode cX5_takesDigit 11 = .ok (.ifCond .ne 7, 3) := by decide +kernel
theorem dX5_takesDigit_14 : decode cX5_takesDigit 14 = .ok (.iconst 1, 1) := by decide +kernel
theorem dX5_takesDigit_15 : decode cX5_takesDigit 15 = .ok (.goto 4, 3) := by decide +kernel
theorem dX5_takesDigit_18 : decode cX5_takesDigit 18 = .ok (.iconst 0, 1) := by decide +kernel
theorem dX5_takesDigit_19 : decode cX5_takesDigit 19 = .ok (.istore_n 2, 1) := by decide +kernel
theorem dX5_takesDigit_20 : decode cX5_takesDigit 20 = .ok (.iload_n 1, 1) := by decide +kernel
theorem dX5_takesDigit_21 : decode cX5_takesDigit 21 = .ok (.iconst 0, 1) := by decide +kernel
theorem dX5_takesDigit_22 : decode cX5_takesDigit 22 = .ok (.bipush 9, 2) := by decide +kernel
theorem dX5_takesDigit_24 : decode cX5_takesDigit 24 = .ok (.invokestatic 72, 3) := by decide +kernel
theorem dX5_takesDigit_27 : decode cX5_takesDigit 27 = .ok (.ifCond .ne 22, 3) := by decide +kernel
theorem dX5_takesDigit_30 : decode cX5_takesDigit 30 = .ok (.iload_n 2, 1) := by decide +kernel
theorem dX5_takesDigit_31 : decode cX5_takesDigit 31 = .ok (.ifCond .ne 18, 3) := by decide +kernel
theorem dX5_takesDigit_34 : decode cX5_takesDigit 34 = .ok (.aload_n 0, 1) := by decide +kernel
theorem dX5_takesDigit_35 : decode cX5_takesDigit 35 = .ok (.getfield 69, 3) := by decide +kernel
theorem dX5_takesDigit_38 : decode cX5_takesDigit 38 = .ok (.bipush 10, 2) := by decide +kernel
theorem dX5_takesDigit_40 : decode cX5_takesDigit 40 = .ok (.imul, 1) := by decide +kernel
theorem dX5_takesDigit_41 : decode cX5_takesDigit 41 = .ok (.iload_n 1, 1) := by decide +kernel
theorem dX5_takesDigit_42 : decode cX5_takesDigit 42 = .ok (.iadd, 1) := by decide +kernel
theorem dX5_takesDigit_43 : decode cX5_takesDigit 43 = .ok (.sipush 20000, 3) := by decide +kernel
theorem dX5_takesDigit_46 : decode cX5_takesDigit 46 = .ok (.if_icmp .le 5, 3) := by decide +kernel
theorem dX5_takesDigit_49 : decode cX5_takesDigit 49 = .ok (.iconst 0, 1) := by decide +kernel
theorem dX5_takesDigit_50 : decode cX5_takesDigit 50 = .ok (.ireturn, 1) := by decide +kernel
theorem dX5_takesDigit_51 : decode cX5_takesDigit 51 = .ok (.aload_n 0, 1) := by decide +kernel
theorem dX5_takesDigit_52 : decode cX5_takesDigit 52 = .ok (.aload_n 0, 1) := by decide +kernel
theorem dX5_takesDigit_53 : decode cX5_takesDigit 53 = .ok (.getfield 69, 3) := by decide +kernel
theorem dX5_takesDigit_56 : decode cX5_takesDigit 56 = .ok (.bipush 10, 2) := by decide +kernel
theorem dX5_takesDigit_58 : decode cX5_takesDigit 58 = .ok (.imul, 1) := by decide +kernel
theorem dX5_takesDigit_59 : decode cX5_takesDigit 59 = .ok (.iload_n 1, 1) := by decide +kernel
theorem dX5_takesDigit_60 : decode cX5_takesDigit 60 = .ok (.iadd, 1) := by decide +kernel
theorem dX5_takesDigit_61 : decode cX5_takesDigit 61 = .ok (.putfield 69, 3) := by decide +kernel
theorem dX5_takesDigit_64 : decode cX5_takesDigit 64 = .ok (.aload_n 0, 1) := by decide +kernel
theorem dX5_takesDigit_65 : decode cX5_takesDigit 65 = .ok (.dup, 1) := by decide +kernel
theorem dX5_takesDigit_66 : decode cX5_takesDigit 66 = .ok (.getfield 43, 3) := by decide +kernel
theorem dX5_takesDigit_69 : decode cX5_takesDigit 69 = .ok (.iconst 1, 1) := by decide +kernel
theorem dX5_takesDigit_70 : decode cX5_takesDigit 70 = .ok (.iadd, 1) := by decide +kernel
theorem dX5_takesDigit_71 : decode cX5_takesDigit 71 = .ok (.putfield 43, 3) := by decide +kernel
theorem dX5_takesDigit_74 : decode cX5_takesDigit 74 = .ok (.iconst 1, 1) := by decide +kernel
theorem dX5_takesDigit_75 : decode cX5_takesDigit 75 = .ok (.ireturn, 1) := by decide +kernel
theorem dX5_startNumber_0 : decode cX5_startNumber 0 = .ok (.aload_n 0, 1) := by decide +kernel
theorem dX5_startNumber_1 : decode cX5_startNumber 1 = .ok (.iconst 0, 1) := by decide +kernel
theorem dX5_startNumber_2 : decode cX5_startNumber 2 = .ok (.putfield 63, 3) := by decide +kernel
theorem dX5_startNumber_5 : decode cX5_startNumber 5 = .ok (.aload_n 0, 1) := by decide +kernel
theorem dX5_startNumber_6 : decode cX5_startNumber 6 = .ok (.iconst 0, 1) := by decide +kernel
theorem dX5_startNumber_7 : decode cX5_startNumber 7 = .ok (.putfield 43, 3) := by decide +kernel
theorem dX5_startNumber_10 : decode cX5_startNumber 10 = .ok (.aload_n 0, 1) := by decide +kernel
theorem dX5_startNumber_11 : decode cX5_startNumber 11 = .ok (.iconst 0, 1) := by decide +kernel
theorem dX5_startNumber_12 : decode cX5_startNumber 12 = .ok (.putfield 69, 3) := by decide +kernel
theorem dX5_startNumber_15 : decode cX5_startNumber 15 = .ok (.return_, 1) := by decide +kernel
theorem dX5_number_0 : decode cX5_number 0 = .ok (.aload_n 0, 1) := by decide +kernel
theorem dX5_number_1 : decode cX5_number 1 = .ok (.getfield 63, 3) := by decide +kernel
theorem dX5_number_4 : decode cX5_number 4 = .ok (.ifCond .eq 11, 3) := by decide +kernel
theorem dX5_number_7 : decode cX5_number 7 = .ok (.aload_n 0, 1) := by decide +kernel
theorem dX5_number_8 : decode cX5_number 8 = .ok (.getfield 69, 3) := by decide +kernel
theorem dX5_number_11 : decode cX5_number 11 = .ok (.ineg, 1) := by decide +kernel
theorem dX5_number_12 : decode cX5_number 12 = .ok (.goto 7, 3) := by decide +kernel
theorem dX5_number_15 : decode cX5_number 15 = .ok (.aload_n 0, 1) := by decide +kernel
theorem dX5_number_16 : decode cX5_number 16 = .ok (.getfield 69, 3) := by decide +kernel
theorem dX5_number_19 : decode cX5_number 19 = .ok (.ireturn, 1) := by decide +kernel
set_option maxRecDepth 20000 in
theorem ggX5_endCorner_X5_number : GoodIn wsX5_endCorner wsX5_number := goodIn_r _ [8, 9, 10, 16, 17, 18, 19, 20, 21, 22] (by decide +kernel) (by decide +kernel)
set_option maxRecDepth 20000 in
theorem gX5_endCorner_X5_number : GoodIn wsX5_endCorner (wsV RX5 66 RX5 yX5_number wsX5_number) := goodIn_app (goodIn_of _ (by decide +kernel)) ggX5_endCorner_X5_number
set_option maxRecDepth 20000 in
theorem ggX5_endCorner_X5_startNumber : GoodIn wsX5_endCorner wsX5_startNumber := goodIn_r _ [14, 9, 15, 10, 16, 17, 18, 19, 20, 21, 22] (by decide +kernel) (by decide +kernel)
set_option maxRecDepth 20000 in
theorem gX5_endCorner_X5_startNumber : GoodIn wsX5_endCorner (wsV RX5 26 RX5 yX5_startNumber wsX5_startNumber) := goodIn_app (goodIn_of _ (by decide +kernel)) ggX5_endCorner_X5_startNumber
theorem dX5_endCorner_0 : decode cX5_endCorner 0 = .ok (.aload_n 0, 1) := by decide +kernel
theorem dX5_endCorner_1 : decode cX5_endCorner 1 = .ok (.getfield 18, 3) := by decide +kernel
theorem dX5_endCorner_4 : decode cX5_endCorner 4 = .ok (.bipush 8, 2) := by decide +kernel
theorem dX5_endCorner_6 : decode cX5_endCorner 6 = .ok (.if_icmp .lt 4, 3) := by decide +kernel
theorem dX5_endCorner_9 : decode cX5_endCorner 9 = .ok (.return_, 1) := by decide +kernel
theorem dX5_endCorner_10 : decode cX5_endCorner 10 = .ok (.aload_n 0, 1) := by decide +kernel
theorem dX5_endCorner_11 : decode cX5_endCorner 11 = .ok (.getfield 15, 3) := by decide +kernel
theorem dX5_endCorner_14 : decode cX5_endCorner 14 = .ok (.aload_n 0, 1) := by decide +kernel
theorem dX5_endCorner_15 : decode cX5_endCorner 15 = .ok (.getfield 18, 3) := by decide +kernel
theorem dX5_endCorner_18 : decode cX5_endCorner 18 = .ok (.aload_n 0, 1) := by decide +kernel
theorem dX5_endCorner_19 : decode cX5_endCorner 19 = .ok (.invokevirtual 66, 3) := by decide +kernel
theorem dX5_endCorner_22 : decode cX5_endCorner 22 = .ok (.iastore, 1) := by decide +kernel
theorem dX5_endCorner_23 : decode cX5_endCorner 23 = .ok (.aload_n 0, 1) := by decide +kernel
theorem dX5_endCorner_24 : decode cX5_endCorner 24 = .ok (.dup, 1) := by decide +kernel
theorem dX5_endCorner_25 : decode cX5_endCorner 25 = .ok (.getfield 18, 3) := by decide +kernel
theorem dX5_endCorner_28 : decode cX5_endCorner 28 = .ok (.iconst 1, 1) := by decide +kernel
theorem dX5_endCorner_29 : decode cX5_endCorner 29 = .ok (.iadd, 1) := by decide +kernel
theorem dX5_endCorner_30 : decode cX5_endCorner 30 = .ok (.putfield 18, 3) := by decide +kernel
theorem dX5_endCorner_33 : decode cX5_endCorner 33 = .ok (.aload_n 0, 1) := by decide +kernel
theorem dX5_endCorner_34 : decode cX5_endCorner 34 = .ok (.iconst 0, 1) := by decide +kernel
theorem dX5_endCorner_35 : decode cX5_endCorner 35 = .ok (.putfield 22, 3) := by decide +kernel
theorem dX5_endCorner_38 : decode cX5_endCorner 38 = .ok (.aload_n 0, 1) := by decide +kernel
theorem dX5_endCorner_39 : decode cX5_endCorner 39 = .ok (.invokevirtual 26, 3) := by decide +kernel
theorem dX5_endCorner_42 : decode cX5_endCorner 42 = .ok (.return_, 1) := by decide +kernel
set_option maxRecDepth 20000 in
theorem ggX6_init_X9_init : GoodIn wsX6_init wsX9_init := goodIn_r _ [42, 43, 2, 3, 44, 45, 98, 99, 100, 101] (by decide +kernel) (by decide +kernel)
set_option maxRecDepth 20000 in
theorem gX6_init_X9_init : GoodIn wsX6_init (wsX9_init) := ggX6_init_X9_init
set_option maxRecDepth 20000 in
theorem ggX6_init_X2_init : GoodIn wsX6_init wsX2_init := goodIn_r _ [47, 48, 2, 3, 6, 49, 50, 102, 103] (by decide +kernel) (by decide +kernel)
set_option maxRecDepth 20000 in
theorem gX6_init_X2_init_n32 : GoodIn wsX6_init (wsX2_init) := ggX6_init_X2_init
set_option maxRecDepth 20000 in
theorem ggX6_init_X7_init : GoodIn wsX6_init wsX7_init := goodIn_r _ [52, 53, 2, 3, 54, 26, 27, 55, 56, 57, 58, 59, 60, 112, 113, 114, 115, 104, 105, 106, 107, 108] (by decide +kernel) (by decide +kernel)
set_option maxRecDepth 20000 in
theorem gX6_init_X7_init_n39 : GoodIn wsX6_init (wsX7_init) := ggX6_init_X7_init
set_option maxRecDepth 20000 in
theorem ggX6_init_X8_init : GoodIn wsX6_init wsX8_init := goodIn_r _ [62, 63, 2, 3, 6, 64, 109, 110, 111] (by decide +kernel) (by decide +kernel)
set_option maxRecDepth 20000 in
theorem gX6_init_X8_init_n46 : GoodIn wsX6_init (wsX8_init) := ggX6_init_X8_init
set_option maxRecDepth 20000 in
theorem ggX6_init_X3_init : GoodIn wsX6_init wsX3_init := goodIn_r _ [59, 60, 2, 3] (by decide +kernel) (by decide +kernel)
set_option maxRecDepth 20000 in
theorem gX6_init_X3_init_n56 : GoodIn wsX6_init (wsX3_init) := ggX6_init_X3_init
set_option maxRecDepth 20000 in
theorem ggX6_init_X0_init : GoodIn wsX6_init wsX0_init := goodIn_r _ [66, 67, 2, 3, 68, 116, 117, 118, 119] (by decide +kernel) (by decide +kernel)
set_option maxRecDepth 20000 in
theorem gX6_init_X0_init_n63 : GoodIn wsX6_init (wsX0_init) := ggX6_init_X0_init
set_option maxRecDepth 20000 in
theorem ggX6_init_X1_init : GoodIn wsX6_init wsX1_init := goodIn_r _ [70, 71, 2, 3, 6, 72, 73, 120, 121, 122] (by decide +kernel) (by decide +kernel)
set_option maxRecDepth 20000 in
theorem gX6_init_X1_init_n70 : GoodIn wsX6_init (wsX1_init) := ggX6_init_X1_init
set_option maxRecDepth 20000 in
theorem ggX6_init_X4_init : GoodIn wsX6_init wsX4_init := goodIn_r _ [75, 76, 2, 3, 6, 77, 78, 79, 123, 124, 125, 126] (by decide +kernel) (by decide +kernel)
set_option maxRecDepth 20000 in
theorem gX6_init_X4_init_n79 : GoodIn wsX6_init (wsX4_init) := ggX6_init_X4_init
theorem dX6_init_0 : decode cX6_init 0 = .ok (.aload_n 0, 1) := by decide +kernel
theorem dX6_init_1 : decode cX6_init 1 = .ok (.invokespecial 3, 3) := by decide +kernel
theorem dX6_init_4 : decode cX6_init 4 = .ok (.aload_n 0, 1) := by decide +kernel
theorem dX6_init_5 : decode cX6_init 5 = .ok (.iconst 5, 1) := by decide +kernel
theorem dX6_init_6 : decode cX6_init 6 = .ok (.anewarray 9, 3) := by decide +kernel
theorem dX6_init_9 : decode cX6_init 9 = .ok (.putfield 11, 3) := by decide +kernel
theorem dX6_init_12 : decode cX6_init 12 = .ok (.aload_n 0, 1) := by decide +kernel
theorem dX6_init_13 : decode cX6_init 13 = .ok (.bipush 8, 2) := by decide +kernel
theorem dX6_init_15 : decode cX6_init 15 = .ok (.newarray .int, 2) := by decide +kernel
theorem dX6_init_17 : decode cX6_init 17 = .ok (.dup, 1) := by decide +kernel
theorem dX6_init_18 : decode cX6_init 18 = .ok (.iconst 0, 1) := by decide +kernel
theorem dX6_init_19 : decode cX6_init 19 = .ok (.bipush 100, 2) := by decide +kernel
theorem dX6_init_21 : decode cX6_init 21 = .ok (.iastore, 1) := by decide +kernel
theorem dX6_init_22 : decode cX6_init 22 = .ok (.dup, 1) := by decide +kernel
theorem dX6_init_23 : decode cX6_init 23 = .ok (.iconst 1, 1) := by decide +kernel
theorem dX6_init_24 : decode cX6_init 24 = .ok (.sipush 1000, 3) := by decide +kernel
theorem dX6_init_27 : decode cX6_init 27 = .ok (.iastore, 1) := by decide +kernel
theorem dX6_init_28 : decode cX6_init 28 = .ok (.dup, 1) := by decide +kernel
theorem dX6_init_29 : decode cX6_init 29 = .ok (.iconst 2, 1) := by decide +kernel
theorem dX6_init_30 : decode cX6_init 30 = .ok (.bipush 48, 2) := by decide +kernel
theorem dX6_init_32 : decode cX6_init 32 = .ok (.iastore, 1) := by decide +kernel
theorem dX6_init_33 : decode cX6_init 33 = .ok (.dup, 1) := by decide +kernel
theorem dX6_init_34 : decode cX6_init 34 = .ok (.iconst 3, 1) := by decide +kernel
theorem dX6_init_35 : decode cX6_init 35 = .ok (.sipush 20000, 3) := by decide +kernel
theorem dX6_init_38 : decode cX6_init 38 = .ok (.iastore, 1) := by decide +kernel
theorem dX6_init_39 : decode cX6_init 39 = .ok (.dup, 1) := by decide +kernel
theorem dX6_init_40 : decode cX6_init 40 = .ok (.iconst 4, 1) := by decide +kernel
theorem dX6_init_41 : decode cX6_init 41 = .ok (.sipush 500, 3) := by decide +kernel
theorem dX6_init_44 : decode cX6_init 44 = .ok (.iastore, 1) := by decide +kernel
theorem dX6_init_45 : decode cX6_init 45 = .ok (.dup, 1) := by decide +kernel
theorem dX6_init_46 : decode cX6_init 46 = .ok (.iconst 5, 1) := by decide +kernel
theorem dX6_init_47 : decode cX6_init 47 = .ok (.iconst 0, 1) := by decide +kernel
theorem dX6_init_48 : decode cX6_init 48 = .ok (.iastore, 1) := by decide +kernel
theorem dX6_init_49 : decode cX6_init 49 = .ok (.dup, 1) := by decide +kernel
theorem dX6_init_50 : decode cX6_init 50 = .ok (.bipush 6, 2) := by decide +kernel
theorem dX6_init_52 : decode cX6_init 52 = .ok (.bipush 24, 2) := by decide +kernel
theorem dX6_init_54 : decode cX6_init 54 = .ok (.iastore, 1) := by decide +kernel
theorem dX6_init_55 : decode cX6_init 55 = .ok (.dup, 1) := by decide +kernel
theorem dX6_init_56 : decode cX6_init 56 = .ok (.bipush 7, 2) := by decide +kernel
theorem dX6_init_58 : decode cX6_init 58 = .ok (.iconst 0, 1) := by decide +kernel
theorem dX6_init_59 : decode cX6_init 59 = .ok (.iastore, 1) := by decide +kernel
theorem dX6_init_60 : decode cX6_init 60 = .ok (.putfield 17, 3) := by decide +kernel
theorem dX6_init_63 : decode cX6_init 63 = .ok (.aload_n 0, 1) := by decide +kernel
theorem dX6_init_64 : decode cX6_init 64 = .ok (.iconst 3, 1) := by decide +kernel
theorem dX6_init_65 : decode cX6_init 65 = .ok (.anewarray 21, 3) := by decide +kernel
theorem dX6_init_68 : decode cX6_init 68 = .ok (.dup, 1) := by decide +kernel
theorem dX6_init_69 : decode cX6_init 69 = .ok (.iconst 0, 1) := by decide +kernel
theorem dX6_init_70 : decode cX6_init 70 = .ok (.new 21, 3) := by decide +kernel
theorem dX6_init_73 : decode cX6_init 73 = .ok (.dup, 1) := by decide +kernel
theorem dX6_init_74 : decode cX6_init 74 = .ok (.iconst 4, 1) := by decide +kernel
theorem dX6_init_75 : decode cX6_init 75 = .ok (.invokespecial 23, 3) := by decide +kernel
theorem dX6_init_78 : decode cX6_init 78 = .ok (.aastore, 1) := by decide +kernel
theorem dX6_init_79 : decode cX6_init 79 = .ok (.dup, 1) := by decide +kernel
theorem dX6_init_80 : decode cX6_init 80 = .ok (.iconst 1, 1) := by decide +kernel
theorem dX6_init_81 : decode cX6_init 81 = .ok (.new 21, 3) := by decide +kernel
theorem dX6_init_84 : decode cX6_init 84 = .ok (.dup, 1) := by decide +kernel
theorem dX6_init_85 : decode cX6_init 85 = .ok (.sipush 480, 3) := by decide +kernel
theorem dX6_init_88 : decode cX6_init 88 = .ok (.invokespecial 23, 3) := by decide +kernel
theorem dX6_init_91 : decode cX6_init 91 = .ok (.aastore, 1) := by decide +kernel
theorem dX6_init_92 : decode cX6_init 92 = .ok (.dup, 1) := by decide +kernel
theorem dX6_init_93 : decode cX6_init 93 = .ok (.iconst 2, 1) := by decide +kernel
theorem dX6_init_94 : decode cX6_init 94 = .ok (.new 21, 3) := by decide +kernel
theorem dX6_init_97 : decode cX6_init 97 = .ok (.dup, 1) := by decide +kernel
theorem dX6_init_98 : decode cX6_init 98 = .ok (.sipush 1200, 3) := by decide +kernel
theorem dX6_init_101 : decode cX6_init 101 = .ok (.invokespecial 23, 3) := by decide +kernel
theorem dX6_init_104 : decode cX6_init 104 = .ok (.aastore, 1) := by decide +kernel
theorem dX6_init_105 : decode cX6_init 105 = .ok (.putfield 26, 3) := by decide +kernel
theorem dX6_init_108 : decode cX6_init 108 = .ok (.aload_n 0, 1) := by decide +kernel
theorem dX6_init_109 : decode cX6_init 109 = .ok (.new 30, 3) := by decide +kernel
theorem dX6_init_112 : decode cX6_init 112 = .ok (.dup, 1) := by decide +kernel
theorem dX6_init_113 : decode cX6_init 113 = .ok (.invokespecial 32, 3) := by decide +kernel
theorem dX6_init_116 : decode cX6_init 116 = .ok (.putfield 33, 3) := by decide +kernel
theorem dX6_init_119 : decode cX6_init 119 = .ok (.aload_n 0, 1) := by decide +kernel
theorem dX6_init_120 : decode cX6_init 120 = .ok (.new 37, 3) := by decide +kernel
theorem dX6_init_123 : decode cX6_init 123 = .ok (.dup, 1) := by decide +kernel
theorem dX6_init_124 : decode cX6_init 124 = .ok (.invokespecial 39, 3) := by decide +kernel
theorem dX6_init_127 : decode cX6_init 127 = .ok (.putfield 40, 3) := by decide +kernel
theorem dX6_init_130 : decode cX6_init 130 = .ok (.aload_n 0, 1) := by decide +kernel
theorem dX6_init_131 : decode cX6_init 131 = .ok (.new 44, 3) := by decide +kernel
theorem dX6_init_134 : decode cX6_init 134 = .ok (.dup, 1) := by decide +kernel
theorem dX6_init_135 : decode cX6_init 135 = .ok (.invokespecial 46, 3) := by decide +kernel
theorem dX6_init_138 : decode cX6_init 138 = .ok (.putfield 47, 3) := by decide +kernel
theorem dX6_init_141 : decode cX6_init 141 = .ok (.aload_n 0, 1) := by decide +kernel
theorem dX6_init_142 : decode cX6_init 142 = .ok (.new 44, 3) := by decide +kernel
theorem dX6_init_145 : decode cX6_init 145 = .ok (.dup, 1) := by decide +kernel
theorem dX6_init_146 : decode cX6_init 146 = .ok (.invokespecial 46, 3) := by decide +kernel
theorem dX6_init_149 : decode cX6_init 149 = .ok (.putfield 51, 3) := by decide +kernel
theorem dX6_init_152 : decode cX6_init 152 = .ok (.aload_n 0, 1) := by decide +kernel
theorem dX6_init_153 : decode cX6_init 153 = .ok (.new 54, 3) := by decide +kernel
theorem dX6_init_156 : decode cX6_init 156 = .ok (.dup, 1) := by decide +kernel
theorem dX6_init_157 : decode cX6_init 157 = .ok (.invokespecial 56, 3) := by decide +kernel
theorem dX6_init_160 : decode cX6_init 160 = .ok (.putfield 57, 3) := by decide +kernel
theorem dX6_init_163 : decode cX6_init 163 = .ok (.aload_n 0, 1) := by decide +kernel
theorem dX6_init_164 : decode cX6_init 164 = .ok (.new 61, 3) := by decide +kernel
theorem dX6_init_167 : decode cX6_init 167 = .ok (.dup, 1) := by decide +kernel
theorem dX6_init_168 : decode cX6_init 168 = .ok (.invokespecial 63, 3) := by decide +kernel
theorem dX6_init_171 : decode cX6_init 171 = .ok (.putfield 64, 3) := by decide +kernel
theorem dX6_init_174 : decode cX6_init 174 = .ok (.aload_n 0, 1) := by decide +kernel
theorem dX6_init_175 : decode cX6_init 175 = .ok (.new 68, 3) := by decide +kernel
theorem dX6_init_178 : decode cX6_init 178 = .ok (.dup, 1) := by decide +kernel
theorem dX6_init_179 : decode cX6_init 179 = .ok (.invokespecial 70, 3) := by decide +kernel
theorem dX6_init_182 : decode cX6_init 182 = .ok (.putfield 71, 3) := by decide +kernel
theorem dX6_init_185 : decode cX6_init 185 = .ok (.aload_n 0, 1) := by decide +kernel
theorem dX6_init_186 : decode cX6_init 186 = .ok (.bipush (-6), 2) := by decide +kernel
theorem dX6_init_188 : decode cX6_init 188 = .ok (.putfield 75, 3) := by decide +kernel
theorem dX6_init_191 : decode cX6_init 191 = .ok (.iconst 0, 1) := by decide +kernel
theorem dX6_init_192 : decode cX6_init 192 = .ok (.istore_n 1, 1) := by decide +kernel
theorem dX6_init_193 : decode cX6_init 193 = .ok (.iload_n 1, 1) := by decide +kernel
theorem dX6_init_194 : decode cX6_init 194 = .ok (.iconst 5, 1) := by decide +kernel
theorem dX6_init_195 : decode cX6_init 195 = .ok (.if_icmp .ge 22, 3) := by decide +kernel
theorem dX6_init_198 : decode cX6_init 198 = .ok (.aload_n 0, 1) := by decide +kernel
theorem dX6_init_199 : decode cX6_init 199 = .ok (.getfield 11, 3) := by decide +kernel
theorem dX6_init_202 : decode cX6_init 202 = .ok (.iload_n 1, 1) := by decide +kernel
theorem dX6_init_203 : decode cX6_init 203 = .ok (.new 9, 3) := by decide +kernel
theorem dX6_init_206 : decode cX6_init 206 = .ok (.dup, 1) := by decide +kernel
theorem dX6_init_207 : decode cX6_init 207 = .ok (.invokespecial 79, 3) := by decide +kernel
theorem dX6_init_210 : decode cX6_init 210 = .ok (.aastore, 1) := by decide +kernel
theorem dX6_init_211 : decode cX6_init 211 = .ok (.iinc 1 1, 3) := by decide +kernel
theorem dX6_init_214 : decode cX6_init 214 = .ok (.goto (-21), 3) := by decide +kernel
theorem dX6_init_217 : decode cX6_init 217 = .ok (.return_, 1) := by decide +kernel
set_option maxRecDepth 20000 in
theorem ggX6_becomeLike_X4_becomeLike : GoodIn wsX6_becomeLike wsX4_becomeLike := goodIn_r _ [27, 28, 29, 5, 6, 7, 30, 31, 32, 119, 120, 121, 122] (by decide +kernel) (by decide +kernel)
set_option maxRecDepth 20000 in
theorem gX6_becomeLike_X4_becomeLike : GoodIn wsX6_becomeLike (wsV RX6 80 RX4 yX4_becomeLike wsX4_becomeLike) := goodIn_app (goodIn_of _ (by decide +kernel)) ggX6_becomeLike_X4_becomeLike
set_option maxRecDepth 20000 in
theorem ggX6_becomeLike_X9_becomeLike : GoodIn wsX6_becomeLike wsX9_becomeLike := goodIn_r _ [37, 38, 39, 40, 41, 123, 124, 125, 126] (by decide +kernel) (by decide +kernel)
set_option maxRecDepth 20000 in
theorem gX6_becomeLike_X9_becomeLike : GoodIn wsX6_becomeLike (wsV RX6 84 RX9 yX9_becomeLike wsX9_becomeLike) := goodIn_app (goodIn_of _ (by decide +kernel)) ggX6_becomeLike_X9_becomeLike
set_option maxRecDepth 20000 in
theorem ggX6_becomeLike_X2_becomeLike : GoodIn wsX6_becomeLike wsX2_becomeLike := goodIn_r _ [46, 47, 48, 5, 6, 7, 49, 127, 128] (by decide +kernel) (by decide +kernel)
set_option maxRecDepth 20000 in
theorem gX6_becomeLike_X2_becomeLike : GoodIn wsX6_becomeLike (wsV RX6 93 RX2 yX2_becomeLike wsX2_becomeLike) := goodIn_app (goodIn_of _ (by decide +kernel)) ggX6_becomeLike_X2_becomeLike
set_option maxRecDepth 20000 in
theorem ggX6_becomeLike_X7_becomeLike : GoodIn wsX6_becomeLike wsX7_becomeLike := goodIn_r _ [54, 55, 56, 57, 58, 59, 60, 61, 62, 63, 64, 65, 66, 67, 68, 69, 70, 71, 72, 129, 130, 131, 132, 133, 134, 135, 136, 137] (by decide +kernel) (by decide +kernel)
set_option maxRecDepth 20000 in
theorem gX6_becomeLike_X7_becomeLike : GoodIn wsX6_becomeLike (wsV RX6 96 RX7 yX7_becomeLike wsX7_becomeLike) := goodIn_app (goodIn_of _ (by decide +kernel)) ggX6_becomeLike_X7_becomeLike
set_option maxRecDepth 20000 in
theorem ggX6_becomeLike_X8_becomeLike : GoodIn wsX6_becomeLike wsX8_becomeLike := goodIn_r _ [77, 78, 79, 5, 6, 7, 80, 81, 138, 139, 140] (by decide +kernel) (by decide +kernel)
set_option maxRecDepth 20000 in
theorem gX6_becomeLike_X8_becomeLike : GoodIn wsX6_becomeLike (wsV RX6 99 RX8 yX8_becomeLike wsX8_becomeLike) := goodIn_app (goodIn_of _ (by decide +kernel)) ggX6_becomeLike_X8_becomeLike
set_option maxRecDepth 20000 in
theorem ggX6_becomeLike_X3_becomeLike : GoodIn wsX6_becomeLike wsX3_becomeLike := goodIn_r _ [64, 65, 66, 67, 68, 69, 70, 71, 63, 72, 134, 135, 136, 137] (by decide +kernel) (by decide +kernel)
set_option maxRecDepth 20000 in
theorem gX6_becomeLike_X3_becomeLike : GoodIn wsX6_becomeLike (wsV RX6 102 RX3 yX3_becomeLike wsX3_becomeLike) := goodIn_app (goodIn_of _ (by decide +kernel)) ggX6_becomeLike_X3_becomeLike
set_option maxRecDepth 20000 in
theorem ggX6_becomeLike_X0_becomeLike : GoodIn wsX6_becomeLike wsX0_becomeLike := goodIn_r _ [87, 88, 89, 90, 91, 141, 142, 143, 144] (by decide +kernel) (by decide +kernel)
set_option maxRecDepth 20000 in
theorem gX6_becomeLike_X0_becomeLike : GoodIn wsX6_becomeLike (wsV RX6 105 RX0 yX0_becomeLike wsX0_becomeLike) := goodIn_app (goodIn_of _ (by decide +kernel)) ggX6_becomeLike_X0_becomeLike
set_option maxRecDepth 20000 in
theorem ggX6_becomeLike_X1_becomeLike : GoodIn wsX6_becomeLike wsX1_becomeLike := goodIn_r _ [96, 97, 98, 5, 6, 7, 99, 100, 145, 146, 147] (by decide +kernel) (by decide +kernel)
set_option maxRecDepth 20000 in
theorem gX6_becomeLike_X1_becomeLike : GoodIn wsX6_becomeLike (wsV RX6 108 RX1 yX1_becomeLike wsX1_becomeLike) := goodIn_app (goodIn_of _ (by decide +kernel)) ggX6_becomeLike_X1_becomeLike
theorem dX6_becomeLike_0 : decode cX6_becomeLike 0 = .ok (.iconst 0, 1) := by decide +kernel
theorem dX6_becomeLike_1 : decode cX6_becomeLike 1 = .ok (.istore_n 2, 1) := by decide +kernel
theorem dX6_becomeLike_2 : decode cX6_becomeLike 2 = .ok (.iload_n 2, 1) := by decide +kernel
theorem dX6_becomeLike_3 : decode cX6_becomeLike 3 = .ok (.iconst 5, 1) := by decide +kernel
theorem dX6_becomeLike_4 : decode cX6_becomeLike 4 = .ok (.if_icmp .ge 24, 3) := by decide +kernel
theorem dX6_becomeLike_7 : decode cX6_becomeLike 7 = .ok (.aload_n 0, 1) := by decide +kernel
theorem dX6_becomeLike_8 : decode cX6_becomeLike 8 = .ok (.getfield 11, 3) := by decide +kernel
theorem dX6_becomeLike_11 : decode cX6_becomeLike 11 = .ok (.iload_n 2, 1) := by decide +kernel
theorem dX6_becomeLike_12 : decode cX6_becomeLike 12 = .ok (.aaload, 1) := by decide +kernel
theorem dX6_becomeLike_13 : decode cX6_becomeLike 13 = .ok (.aload_n 1, 1) := by decide +kernel
theorem dX6_becomeLike_14 : decode cX6_becomeLike 14 = .ok (.getfield 11, 3) := by decide +kernel
theorem dX6_becomeLike_17 : decode cX6_becomeLike 17 = .ok (.iload_n 2, 1) := by decide +kernel
theorem dX6_becomeLike_18 : decode cX6_becomeLike 18 = .ok (.aaload, 1) := by decide +kernel
theorem dX6_becomeLike_19 : decode cX6_becomeLike 19 = .ok (.invokevirtual 80, 3) := by decide +kernel
theorem dX6_becomeLike_22 : decode cX6_becomeLike 22 = .ok (.iinc 2 1, 3) := by decide +kernel
theorem dX6_becomeLike_25 : decode cX6_becomeLike 25 = .ok (.goto (-23), 3) := by decide +kernel
theorem dX6_becomeLike_28 : decode cX6_becomeLike 28 = .ok (.iconst 0, 1) := by decide +kernel
theorem dX6_becomeLike_29 : decode cX6_becomeLike 29 = .ok (.istore_n 2, 1) := by decide +kernel
theorem dX6_becomeLike_30 : decode cX6_becomeLike 30 = .ok (.iload_n 2, 1) := by decide +kernel
theorem dX6_becomeLike_31 : decode cX6_becomeLike 31 = .ok (.iconst 3, 1) := by decide +kernel
theorem dX6_becomeLike_32 : decode cX6_becomeLike 32 = .ok (.if_icmp .ge 24, 3) := by decide +kernel
theorem dX6_becomeLike_35 : decode cX6_becomeLike 35 = .ok (.aload_n 0, 1) := by decide +kernel
theorem dX6_becomeLike_36 : decode cX6_becomeLike 36 = .ok (.getfield 26, 3) := by decide +kernel
theorem dX6_becomeLike_39 : decode cX6_becomeLike 39 = .ok (.iload_n 2, 1) := by decide +kernel
theorem dX6_becomeLike_40 : decode cX6_becomeLike 40 = .ok (.aaload, 1) := by decide +kernel
theorem dX6_becomeLike_41 : decode cX6_becomeLike 41 = .ok (.aload_n 1, 1) := by decide +kernel
theorem dX6_becomeLike_42 : decode cX6_becomeLike 42 = .ok (.getfield 26, 3) := by decide +kernel
theorem dX6_becomeLike_45 : decode cX6_becomeLike 45 = .ok (.iload_n 2, 1) := by decide +kernel
theorem dX6_becomeLike_46 : decode cX6_becomeLike 46 = .ok (.aaload, 1) := by decide +kernel
theorem dX6_becomeLike_47 : decode cX6_becomeLike 47 = .ok (.invokevirtual 84, 3) := by decide +kernel
theorem dX6_becomeLike_50 : decode cX6_becomeLike 50 = .ok (.iinc 2 1, 3) := by decide +kernel
theorem dX6_becomeLike_53 : decode cX6_becomeLike 53 = .ok (.goto (-23), 3) := by decide +kernel
theorem dX6_becomeLike_56 : decode cX6_becomeLike 56 = .ok (.aload_n 1, 1) := by decide +kernel
theorem dX6_becomeLike_57 : decode cX6_becomeLike 57 = .ok (.getfield 17, 3) := by decide +kernel
theorem dX6_becomeLike_60 : decode cX6_becomeLike 60 = .ok (.iconst 0, 1) := by decide +kernel
theorem dX6_becomeLike_61 : decode cX6_becomeLike 61 = .ok (.aload_n 0, 1) := by decide +kernel
theorem dX6_becomeLike_62 : decode cX6_becomeLike 62 = .ok (.getfield 17, 3) := by decide +kernel
theorem dX6_becomeLike_65 : decode cX6_becomeLike 65 = .ok (.iconst 0, 1) := by decide +kernel
theorem dX6_becomeLike_66 : decode cX6_becomeLike 66 = .ok (.bipush 8, 2) := by decide +kernel
theorem dX6_becomeLike_68 : decode cX6_becomeLike 68 = .ok (.invokestatic 87, 3) := by decide +kernel
theorem dX6_becomeLike_71 : decode cX6_becomeLike 71 = .ok (.aload_n 0, 1) := by decide +kernel
theorem dX6_becomeLike_72 : decode cX6_becomeLike 72 = .ok (.getfield 33, 3) := by decide +kernel
theorem dX6_becomeLike_75 : decode cX6_becomeLike 75 = .ok (.aload_n 1, 1) := by decide +kernel
theorem dX6_becomeLike_76 : decode cX6_becomeLike 76 = .ok (.getfield 33, 3) := by decide +kernel
theorem dX6_becomeLike_79 : decode cX6_becomeLike 79 = .ok (.invokevirtual 93, 3) := by decide +kernel
theorem dX6_becomeLike_82 : decode cX6_becomeLike 82 = .ok (.aload_n 0, 1) := by decide +kernel
theorem dX6_becomeLike_83 : decode cX6_becomeLike 83 = .ok (.getfield 40, 3) := by decide +kernel
theorem dX6_becomeLike_86 : decode cX6_becomeLike 86 = .ok (.aload_n 1, 1) := by decide +kernel
theorem dX6_becomeLike_87 : decode cX6_becomeLike 87 = .ok (.getfield 40, 3) := by decide +kernel
theorem dX6_becomeLike_90 : decode cX6_becomeLike 90 = .ok (.invokevirtual 96, 3) := by decide +kernel
theorem dX6_becomeLike_93 : decode cX6_becomeLike 93 = .ok (.aload_n 0, 1) := by decide +kernel
theorem dX6_becomeLike_94 : decode cX6_becomeLike 94 = .ok (.getfield 47, 3) := by decide +kernel
theorem dX6_becomeLike_97 : decode cX6_becomeLike 97 = .ok (.aload_n 1, 1) := by decide +kernel
theorem dX6_becomeLike_98 : decode cX6_becomeLike 98 = .ok (.getfield 47, 3) := by decide +kernel
theorem dX6_becomeLike_101 : decode cX6_becomeLike 101 = .ok (.invokevirtual 99, 3) := by decide +kernel
theorem dX6_becomeLike_104 : decode cX6_becomeLike 104 = .ok (.aload_n 0, 1) := by decide +kernel
theorem dX6_becomeLike_105 : decode cX6_becomeLike 105 = .ok (.getfield 51, 3) := by decide +kernel
theorem dX6_becomeLike_108 : decode cX6_becomeLike 108 = .ok (.aload_n 1, 1) := by decide +kernel
theorem dX6_becomeLike_109 : decode cX6_becomeLike 109 = .ok (.getfield 51, 3) := by decide +kernel
theorem dX6_becomeLike_112 : decode cX6_becomeLike 112 = .ok (.invokevirtual 99, 3) := by decide +kernel
theorem dX6_becomeLike_115 : decode cX6_becomeLike 115 = .ok (.aload_n 0, 1) := by decide +kernel
theorem dX6_becomeLike_116 : decode cX6_becomeLike 116 = .ok (.getfield 57, 3) := by decide +kernel
theorem dX6_becomeLike_119 : decode cX6_becomeLike 119 = .ok (.aload_n 1, 1) := by decide +kernel
theorem dX6_becomeLike_120 : decode cX6_becomeLike 120 = .ok (.getfield 57, 3) := by decide +kernel
theorem dX6_becomeLike_123 : decode cX6_becomeLike 123 = .ok (.invokevirtual 102, 3) := by decide +kernel
theorem dX6_becomeLike_126 : decode cX6_becomeLike 126 = .ok (.aload_n 0, 1) := by decide +kernel
theorem dX6_becomeLike_127 : decode cX6_becomeLike 127 = .ok (.getfield 64, 3) := by decide +kernel
theorem dX6_becomeLike_130 : decode cX6_becomeLike 130 = .ok (.aload_n 1, 1) := by decide +kernel
theorem dX6_becomeLike_131 : decode cX6_becomeLike 131 = .ok (.getfield 64, 3) := by decide +kernel
theorem dX6_becomeLike_134 : decode cX6_becomeLike 134 = .ok (.invokevirtual 105, 3) := by decide +kernel
theorem dX6_becomeLike_137 : decode cX6_becomeLike 137 = .ok (.aload_n 0, 1) := by decide +kernel
theorem dX6_becomeLike_138 : decode cX6_becomeLike 138 = .ok (.getfield 71, 3) := by decide +kernel
theorem dX6_becomeLike_141 : decode cX6_becomeLike 141 = .ok (.aload_n 1, 1) := by decide +kernel
theorem dX6_becomeLike_142 : decode cX6_becomeLike 142 = .ok (.getfield 71, 3) := by decide +kernel
theorem dX6_becomeLike_145 : decode cX6_becomeLike 145 = .ok (.invokevirtual 108, 3) := by decide +kernel
theorem dX6_becomeLike_148 : decode cX6_becomeLike 148 = .ok (.aload_n 0, 1) := by decide +kernel
theorem dX6_becomeLike_149 : decode cX6_becomeLike 149 = .ok (.aload_n 1, 1) := by decide +kernel
theorem dX6_becomeLike_150 : decode cX6_becomeLike 150 = .ok (.getfield 111, 3) := by decide +kernel
theorem dX6_becomeLike_153 : decode cX6_becomeLike 153 = .ok (.putfield 111, 3) := by decide +kernel
theorem dX6_becomeLike_156 : decode cX6_becomeLike 156 = .ok (.aload_n 0, 1) := by decide +kernel
theorem dX6_becomeLike_157 : decode cX6_becomeLike 157 = .ok (.aload_n 1, 1) := by decide +kernel
theorem dX6_becomeLike_158 : decode cX6_becomeLike 158 = .ok (.getfield 114, 3) := by decide +kernel
theorem dX6_becomeLike_161 : decode cX6_becomeLike 161 = .ok (.putfield 114, 3) := by decide +kernel
theorem dX6_becomeLike_164 : decode cX6_becomeLike 164 = .ok (.aload_n 0, 1) := by decide +kernel
theorem dX6_becomeLike_165 : decode cX6_becomeLike 165 = .ok (.aload_n 1, 1) := by decide +kernel
theorem dX6_becomeLike_166 : decode cX6_becomeLike 166 = .ok (.getfield 117, 3) := by decide +kernel
theorem dX6_becomeLike_169 : decode cX6_becomeLike 169 = .ok (.putfield 117, 3) := by decide +kernel
theorem dX6_becomeLike_172 : decode cX6_becomeLike 172 = .ok (.aload_n 0, 1) := by decide +kernel
theorem dX6_becomeLike_173 : decode cX6_becomeLike 173 = .ok (.aload_n 1, 1) := by decide +kernel
theorem dX6_becomeLike_174 : decode cX6_becomeLike 174 = .ok (.getfield 120, 3) := by decide +kernel
theorem dX6_becomeLike_177 : decode cX6_becomeLike 177 = .ok (.putfield 120, 3) := by decide +kernel
theorem dX6_becomeLike_180 : decode cX6_becomeLike 180 = .ok (.aload_n 0, 1) := by decide +kernel
theorem dX6_becomeLike_181 : decode cX6_becomeLike 181 = .ok (.aload_n 1, 1) := by decide +kernel
theorem dX6_becomeLike_182 : decode cX6_becomeLike 182 = .ok (.getfield 123, 3) := by decide +kernel
theorem dX6_becomeLike_185 : decode cX6_becomeLike 185 = .ok (.putfield 123, 3) := by decide +kernel
theorem dX6_becomeLike_188 : decode cX6_becomeLike 188 = .ok (.aload_n 0, 1) := by decide +kernel
theorem dX6_becomeLike_189 : decode cX6_becomeLike 189 = .ok (.aload_n 1, 1) := by decide +kernel
theorem dX6_becomeLike_190 : decode cX6_becomeLike 190 = .ok (.getfield 127, 3) := by decide +kernel
theorem dX6_becomeLike_193 : decode cX6_becomeLike 193 = .ok (.putfield 127, 3) := by decide +kernel
theorem dX6_becomeLike_196 : decode cX6_becomeLike 196 = .ok (.aload_n 0, 1) := by decide +kernel
theorem dX6_becomeLike_197 : decode cX6_becomeLike 197 = .ok (.aload_n 1, 1) := by decide +kernel
theorem dX6_becomeLike_198 : decode cX6_becomeLike 198 = .ok (.getfield 75, 3) := by decide +kernel
theorem dX6_becomeLike_201 : decode cX6_becomeLike 201 = .ok (.putfield 75, 3) := by decide +kernel
theorem dX6_becomeLike_204 : decode cX6_becomeLike 204 = .ok (.aload_n 0, 1) := by decide +kernel
theorem dX6_becomeLike_205 : decode cX6_becomeLike 205 = .ok (.aload_n 1, 1) := by decide +kernel
theorem dX6_becomeLike_206 : decode cX6_becomeLike 206 = .ok (.getfield 130, 3) := by decide +kernel
theorem dX6_becomeLike_209 : decode cX6_becomeLike 209 = .ok (.putfield 130, 3) := by decide +kernel
theorem dX6_becomeLike_212 : decode cX6_becomeLike 212 = .ok (.return_, 1) := by decide +kernel
theorem dX6_rearm_0 : decode cX6_rearm 0 = .ok (.aload_n 0, 1) := by decide +kernel
theorem dX6_rearm_1 : decode cX6_rearm 1 = .ok (.bipush (-6), 2) := by decide +kernel
theorem dX6_rearm_3 : decode cX6_rearm 3 = .ok (.putfield 75, 3) := by decide +kernel
theorem dX6_rearm_6 : decode cX6_rearm 6 = .ok (.iconst 0, 1) := by decide +kernel
theorem dX6_rearm_7 : decode cX6_rearm 7 = .ok (.istore_n 1, 1) := by decide +kernel
theorem dX6_rearm_8 : decode cX6_rearm 8 = .ok (.iload_n 1, 1) := by decide +kernel
theorem dX6_rearm_9 : decode cX6_rearm 9 = .ok (.iconst 3, 1) := by decide +kernel
theorem dX6_rearm_10 : decode cX6_rearm 10 = .ok (.if_icmp .ge 19, 3) := by decide +kernel
theorem dX6_rearm_13 : decode cX6_rearm 13 = .ok (.aload_n 0, 1) := by decide +kernel
theorem dX6_rearm_14 : decode cX6_rearm 14 = .ok (.getfield 26, 3) := by decide +kernel
theorem dX6_rearm_17 : decode cX6_rearm 17 = .ok (.iload_n 1, 1) := by decide +kernel
theorem dX6_rearm_18 : decode cX6_rearm 18 = .ok (.aaload, 1) := by decide +kernel
theorem dX6_rearm_19 : decode cX6_rearm 19 = .ok (.iconst 0, 1) := by decide +kernel
theorem dX6_rearm_20 : decode cX6_rearm 20 = .ok (.putfield 133, 3) := by decide +kernel
theorem dX6_rearm_23 : decode cX6_rearm 23 = .ok (.iinc 1 1, 3) := by decide +kernel
theorem dX6_rearm_26 : decode cX6_rearm 26 = .ok (.goto (-18), 3) := by decide +kernel
theorem dX6_rearm_29 : decode cX6_rearm 29 = .ok (.return_, 1) := by decide +kernel
set_option maxRecDepth 20000 in
theorem ggX6_samplesUntilTrip_X6_takeSample : GoodIn wsX6_samplesUntilTrip wsX6_takeSample := goodIn_r _ [6, 7, 8, 9, 10, 11, 12, 13, 14, 15, 16, 17, 18, 19, 20, 21, 22, 23, 24, 25, 26, 27, 28, 29, 30, 31, 32, 33, 34, 35, 36, 37, 38, 39, 40, 41, 42, 43, 5, 44, 45, 46, 47, 48, 49, 50, 51, 52, 53, 54, 55, 56, 57, 58, 59, 60, 61, 62, 63, 64, 65, 66, 67, 68, 69, 70, 71, 72, 73, 74, 75, 76, 77, 78, 79, 80, 81, 82, 83, 84, 85, 86, 87, 88, 89, 90, 91, 92, 93, 94, 95, 96, 97, 98, 99, 100, 101, 102, 103, 104, 105, 106, 107, 108, 109, 110, 111, 112, 113, 114, 115, 116, 117, 118, 119, 120, 121, 122, 123, 124, 125, 126, 127, 128, 129, 130, 131, 132, 133, 134, 135, 136, 137, 138, 139, 140, 141, 142, 143, 144, 145, 146, 147, 148, 149, 150, 151, 152, 153, 154, 155, 156, 157, 158, 159, 160, 161, 162, 163, 164, 165, 166, 167, 168, 169, 170, 171, 172, 173, 174, 1, 175, 176, 177, 178, 179, 180, 181, 182, 183, 184, 185, 186, 187, 188, 189, 190, 191, 192, 193, 194, 195, 196, 197, 198, 199, 200, 201, 202, 203, 204, 205, 206, 207, 208, 209, 210, 211, 212, 213, 214, 215, 216, 217, 218, 219, 220, 221, 222] (by decide +kernel) (by decide +kernel)
set_option maxRecDepth 20000 in
theorem gX6_samplesUntilTrip_X6_takeSample : GoodIn wsX6_samplesUntilTrip (wsV RX6 136 RX6 yX6_takeSample wsX6_takeSample) := goodIn_app (goodIn_of _ (by decide +kernel)) ggX6_samplesUntilTrip_X6_takeSample
theorem dX6_samplesUntilTrip_0 : decode cX6_samplesUntilTrip 0 = .ok (.iconst 0, 1) := by decide +kernel
theorem dX6_samplesUntilTrip_1 : decode cX6_samplesUntilTrip 1 = .ok (.istore_n 2, 1) := by decide +kernel
theorem dX6_samplesUntilTrip_2 : decode cX6_samplesUntilTrip 2 = .ok (.iload_n 2, 1) := by decide +kernel
theorem dX6_samplesUntilTrip_3 : decode cX6_samplesUntilTrip 3 = .ok (.iload_n 1, 1) := by decide +kernel
theorem dX6_samplesUntilTrip_4 : decode cX6_samplesUntilTrip 4 = .ok (.if_icmp .gt 29, 3) := by decide +kernel
theorem dX6_samplesUntilTrip_7 : decode cX6_samplesUntilTrip 7 = .ok (.aload_n 0, 1) := by decide +kernel
theorem dX6_samplesUntilTrip_8 : decode cX6_samplesUntilTrip 8 = .ok (.getfield 75, 3) := by decide +kernel
theorem dX6_samplesUntilTrip_11 : decode cX6_samplesUntilTrip 11 = .ok (.bipush (-6), 2) := by decide +kernel
theorem dX6_samplesUntilTrip_13 : decode cX6_samplesUntilTrip 13 = .ok (.if_icmp .eq 5, 3) := by decide +kernel
theorem dX6_samplesUntilTrip_16 : decode cX6_samplesUntilTrip 16 = .ok (.iload_n 2, 1) := by decide +kernel
theorem dX6_samplesUntilTrip_17 : decode cX6_samplesUntilTrip 17 = .ok (.ireturn, 1) := by decide +kernel
theorem dX6_samplesUntilTrip_18 : decode cX6_samplesUntilTrip 18 = .ok (.iload_n 2, 1) := by decide +kernel
theorem dX6_samplesUntilTrip_19 : decode cX6_samplesUntilTrip 19 = .ok (.iload_n 1, 1) := by decide +kernel
theorem dX6_samplesUntilTrip_20 : decode cX6_samplesUntilTrip 20 = .ok (.if_icmp .ge 7, 3) := by decide +kernel
theorem dX6_samplesUntilTrip_23 : decode cX6_samplesUntilTrip 23 = .ok (.aload_n 0, 1) := by decide +kernel
theorem dX6_samplesUntilTrip_24 : decode cX6_samplesUntilTrip 24 = .ok (.invokevirtual 136, 3) := by decide +kernel
theorem dX6_samplesUntilTrip_27 : decode cX6_samplesUntilTrip 27 = .ok (.iinc 2 1, 3) := by decide +kernel
theorem dX6_samplesUntilTrip_30 : decode cX6_samplesUntilTrip 30 = .ok (.goto (-28), 3) := by decide +kernel
theorem dX6_samplesUntilTrip_33 : decode cX6_samplesUntilTrip 33 = .ok (.bipush (-6), 2) := by decide +kernel
theorem dX6_samplesUntilTrip_35 : decode cX6_samplesUntilTrip 35 = .ok (.ireturn, 1) := by decide +kernel
set_option maxRecDepth 20000 in
theorem ggX6_takeSample_X7_advance : GoodIn wsX6_takeSample wsX7_advance := goodIn_r _ [12, 13, 14, 15, 16, 17, 18, 19, 20, 21, 22, 23, 11, 24, 25, 26, 27, 28, 29, 30, 31, 32, 33, 34, 190, 191, 192, 193, 194, 195, 196, 197, 198] (by decide +kernel) (by decide +kernel)
set_option maxRecDepth 20000 in
theorem gX6_takeSample_X7_advance : GoodIn wsX6_takeSample (wsV RX6 139 RX7 yX7_advance wsX7_advance) := goodIn_app (goodIn_of _ (by decide +kernel)) ggX6_takeSample_X7_advance
set_option maxRecDepth 20000 in
theorem ggX6_takeSample_X6_estimateFrom : GoodIn wsX6_takeSample wsX6_estimateFrom := goodIn_r _ [39, 40, 7, 41, 42, 43, 44, 45, 4, 46, 47, 48, 49, 50, 51, 52, 53, 54, 55, 56, 57, 58, 59, 60, 61, 62, 63, 64, 65, 66, 67, 27, 28, 29, 30, 31, 32, 33, 34, 172, 173, 174, 175, 176, 177, 178, 179, 180, 181, 182, 183, 184, 185, 186, 187, 188, 189, 195, 196, 197, 198, 199, 200, 201] (by decide +kernel) (by decide +kernel)
set_option maxRecDepth 20000 in
theorem gX6_takeSample_X6_estimateFrom : GoodIn wsX6_takeSample (wsV RX6 145 RX6 yX6_estimateFrom wsX6_estimateFrom) := goodIn_app (goodIn_of _ (by decide +kernel)) ggX6_takeSample_X6_estimateFrom
set_option maxRecDepth 20000 in
theorem ggX6_takeSample_X6_remember : GoodIn wsX6_takeSample wsX6_remember := goodIn_r _ [71, 4, 41, 42, 5, 72, 73, 74, 172, 173, 174, 175, 176, 177, 178, 179, 180, 181, 182, 183, 184, 185, 186, 187, 188, 189, 195, 196, 197, 198] (by decide +kernel) (by decide +kernel)
set_option maxRecDepth 20000 in
theorem gX6_takeSample_X6_remember : GoodIn wsX6_takeSample (wsV RX6 148 RX6 yX6_remember wsX6_remember) := goodIn_app (goodIn_of _ (by decide +kernel)) ggX6_takeSample_X6_remember
set_option maxRecDepth 20000 in
theorem ggX6_takeSample_X0_become : GoodIn wsX6_takeSample wsX0_become := goodIn_r _ [79, 80, 81, 82, 83, 84, 85, 86, 87, 88, 195, 196, 197, 198, 202, 203, 204, 205] (by decide +kernel) (by decide +kernel)
set_option maxRecDepth 20000 in
theorem gX6_takeSample_X0_become : GoodIn wsX6_takeSample (wsV RX6 151 RX0 yX0_become wsX0_become) := goodIn_app (goodIn_of _ (by decide +kernel)) ggX6_takeSample_X0_become
set_option maxRecDepth 20000 in
theorem ggX6_takeSample_X0_isInLoad : GoodIn wsX6_takeSample wsX0_isInLoad := goodIn_r _ [92, 88, 86, 93, 94, 95, 96, 84, 87, 85, 202, 203, 204, 205] (by decide +kernel) (by decide +kernel)
set_option maxRecDepth 20000 in
theorem gX6_takeSample_X0_isInLoad : GoodIn wsX6_takeSample (wsV RX6 155 RX0 yX0_isInLoad wsX0_isInLoad) := goodIn_app (goodIn_of _ (by decide +kernel)) ggX6_takeSample_X0_isInLoad
set_option maxRecDepth 20000 in
theorem ggX6_takeSample_X6_watchSwing : GoodIn wsX6_takeSample wsX6_watchSwing := goodIn_r _ [100, 3, 101, 102, 103, 5, 104, 7, 105, 106, 107, 78, 108, 88, 86, 87, 84, 109, 110, 111, 112, 113, 114, 115, 116, 117, 118, 119, 120, 121, 122, 123, 124, 38, 125, 126, 127, 128, 129, 130, 131, 132, 133, 134, 55, 56, 57, 172, 173, 174, 175, 176, 177, 178, 179, 180, 181, 182, 183, 184, 185, 186, 187, 188, 189, 202, 203, 204, 205, 206, 207, 208, 209, 210, 211, 212] (by decide +kernel) (by decide +kernel)
set_option maxRecDepth 20000 in
theorem gX6_takeSample_X6_watchSwing : GoodIn wsX6_takeSample (wsV RX6 159 RX6 yX6_watchSwing wsX6_watchSwing) := goodIn_app (goodIn_of _ (by decide +kernel)) ggX6_takeSample_X6_watchSwing
set_option maxRecDepth 20000 in
theorem ggX6_takeSample_X6_pickUpZones : GoodIn wsX6_takeSample wsX6_pickUpZones := goodIn_r _ [138, 139, 3, 101, 140, 104, 7, 141, 142, 143, 38, 144, 74, 5, 72, 4, 41, 73, 42, 44, 45, 145, 146, 147, 148, 149, 150, 151, 152, 153, 154, 155, 156, 157, 103, 6, 158, 159, 160, 105, 106, 107, 78, 108, 88, 86, 87, 84, 109, 110, 111, 112, 113, 114, 115, 116, 117, 118, 119, 120, 121, 126, 127, 128, 129, 130, 131, 132, 133, 134, 55, 56, 57, 172, 173, 174, 175, 176, 177, 178, 179, 180, 181, 182, 183, 184, 185, 186, 187, 188, 189, 213, 214, 215, 216, 195, 196, 197, 198, 217, 218, 202, 203, 204, 205, 206, 207, 208, 209, 210, 211, 212] (by decide +kernel) (by decide +kernel)
set_option maxRecDepth 20000 in
theorem gX6_takeSample_X6_pickUpZones : GoodIn wsX6_takeSample (wsV RX6 162 RX6 yX6_pickUpZones wsX6_pickUpZones) := goodIn_app (goodIn_of _ (by decide +kernel)) ggX6_takeSample_X6_pickUpZones
set_option maxRecDepth 20000 in
theorem ggX6_takeSample_X6_runTimers : GoodIn wsX6_takeSample wsX6_runTimers := goodIn_r _ [164, 139, 140, 165, 172, 173, 174, 175, 176, 177, 178, 179, 180, 181, 182, 183, 184, 185, 186, 187, 188, 189, 213, 214, 215, 216] (by decide +kernel) (by decide +kernel)
set_option maxRecDepth 20000 in
theorem gX6_takeSample_X6_runTimers : GoodIn wsX6_takeSample (wsV RX6 165 RX6 yX6_runTimers wsX6_runTimers) := goodIn_app (goodIn_of _ (by decide +kernel)) ggX6_takeSample_X6_runTimers
set_option maxRecDepth 20000 in
theorem ggX6_takeSample_X6_trip : GoodIn wsX6_takeSample wsX6_trip := goodIn_r _ [169, 170, 139, 165, 171, 104, 7, 126, 127, 128, 129, 130, 131, 132, 133, 134, 55, 56, 57, 172, 173, 174, 175, 176, 177, 178, 179, 180, 181, 182, 183, 184, 185, 186, 187, 188, 189, 213, 214, 215, 216, 210, 211, 212] (by decide +kernel) (by decide +kernel)
set_option maxRecDepth 20000 in
theorem gX6_takeSample_X6_trip : GoodIn wsX6_takeSample (wsV RX6 168 RX6 yX6_trip wsX6_trip) := goodIn_app (goodIn_of _ (by decide +kernel)) ggX6_takeSample_X6_trip
theorem dX6_takeSample_0 : decode cX6_takeSample 0 = .ok (.aload_n 0, 1) := by decide +kernel
theorem dX6_takeSample_1 : decode cX6_takeSample 1 = .ok (.getfield 40, 3) := by decide +kernel
theorem dX6_takeSample_4 : decode cX6_takeSample 4 = .ok (.invokevirtual 139, 3) := by decide +kernel
theorem dX6_takeSample_7 : decode cX6_takeSample 7 = .ok (.aload_n 0, 1) := by decide +kernel
theorem dX6_takeSample_8 : decode cX6_takeSample 8 = .ok (.aload_n 0, 1) := by decide +kernel
theorem dX6_takeSample_9 : decode cX6_takeSample 9 = .ok (.getfield 40, 3) := by decide +kernel
theorem dX6_takeSample_12 : decode cX6_takeSample 12 = .ok (.getfield 142, 3) := by decide +kernel
theorem dX6_takeSample_15 : decode cX6_takeSample 15 = .ok (.invokevirtual 145, 3) := by decide +kernel
theorem dX6_takeSample_18 : decode cX6_takeSample 18 = .ok (.aload_n 0, 1) := by decide +kernel
theorem dX6_takeSample_19 : decode cX6_takeSample 19 = .ok (.invokevirtual 148, 3) := by decide +kernel
theorem dX6_takeSample_22 : decode cX6_takeSample 22 = .ok (.aload_n 0, 1) := by decide +kernel
theorem dX6_takeSample_23 : decode cX6_takeSample 23 = .ok (.getfield 64, 3) := by decide +kernel
theorem dX6_takeSample_26 : decode cX6_takeSample 26 = .ok (.aload_n 0, 1) := by decide +kernel
theorem dX6_takeSample_27 : decode cX6_takeSample 27 = .ok (.getfield 57, 3) := by decide +kernel
theorem dX6_takeSample_30 : decode cX6_takeSample 30 = .ok (.aload_n 0, 1) := by decide +kernel
theorem dX6_takeSample_31 : decode cX6_takeSample 31 = .ok (.getfield 17, 3) := by decide +kernel
theorem dX6_takeSample_34 : decode cX6_takeSample 34 = .ok (.iconst 0, 1) := by decide +kernel
theorem dX6_takeSample_35 : decode cX6_takeSample 35 = .ok (.iaload, 1) := by decide +kernel
theorem dX6_takeSample_36 : decode cX6_takeSample 36 = .ok (.invokevirtual 151, 3) := by decide +kernel
theorem dX6_takeSample_39 : decode cX6_takeSample 39 = .ok (.aload_n 0, 1) := by decide +kernel
theorem dX6_takeSample_40 : decode cX6_takeSample 40 = .ok (.aload_n 0, 1) := by decide +kernel
theorem dX6_takeSample_41 : decode cX6_takeSample 41 = .ok (.getfield 64, 3) := by decide +kernel
theorem dX6_takeSample_44 : decode cX6_takeSample 44 = .ok (.aload_n 0, 1) := by decide +kernel
theorem dX6_takeSample_45 : decode cX6_takeSample 45 = .ok (.getfield 17, 3) := by decide +kernel
theorem dX6_takeSample_48 : decode cX6_takeSample 48 = .ok (.iconst 3, 1) := by decide +kernel
theorem dX6_takeSample_49 : decode cX6_takeSample 49 = .ok (.iaload, 1) := by decide +kernel
theorem dX6_takeSample_50 : decode cX6_takeSample 50 = .ok (.aload_n 0, 1) := by decide +kernel
theorem dX6_takeSample_51 : decode cX6_takeSample 51 = .ok (.getfield 17, 3) := by decide +kernel
theorem dX6_takeSample_54 : decode cX6_takeSample 54 = .ok (.iconst 4, 1) := by decide +kernel
theorem dX6_takeSample_55 : decode cX6_takeSample 55 = .ok (.iaload, 1) := by decide +kernel
theorem dX6_takeSample_56 : decode cX6_takeSample 56 = .ok (.invokevirtual 155, 3) := by decide +kernel
theorem dX6_takeSample_59 : decode cX6_takeSample 59 = .ok (.putfield 127, 3) := by decide +kernel
theorem dX6_takeSample_62 : decode cX6_takeSample 62 = .ok (.aload_n 0, 1) := by decide +kernel
theorem dX6_takeSample_63 : decode cX6_takeSample 63 = .ok (.invokevirtual 159, 3) := by decide +kernel
theorem dX6_takeSample_66 : decode cX6_takeSample 66 = .ok (.aload_n 0, 1) := by decide +kernel
theorem dX6_takeSample_67 : decode cX6_takeSample 67 = .ok (.invokevirtual 162, 3) := by decide +kernel
theorem dX6_takeSample_70 : decode cX6_takeSample 70 = .ok (.aload_n 0, 1) := by decide +kernel
theorem dX6_takeSample_71 : decode cX6_takeSample 71 = .ok (.invokevirtual 165, 3) := by decide +kernel
theorem dX6_takeSample_74 : decode cX6_takeSample 74 = .ok (.aload_n 0, 1) := by decide +kernel
theorem dX6_takeSample_75 : decode cX6_takeSample 75 = .ok (.invokevirtual 168, 3) := by decide +kernel
theorem dX6_takeSample_78 : decode cX6_takeSample 78 = .ok (.aload_n 0, 1) := by decide +kernel
theorem dX6_takeSample_79 : decode cX6_takeSample 79 = .ok (.dup, 1) := by decide +kernel
theorem dX6_takeSample_80 : decode cX6_takeSample 80 = .ok (.getfield 130, 3) := by decide +kernel
theorem dX6_takeSample_83 : decode cX6_takeSample 83 = .ok (.iconst 1, 1) := by decide +kernel
theorem dX6_takeSample_84 : decode cX6_takeSample 84 = .ok (.iadd, 1) := by decide +kernel
theorem dX6_takeSample_85 : decode cX6_takeSample 85 = .ok (.putfield 130, 3) := by decide +kernel
theorem dX6_takeSample_88 : decode cX6_takeSample 88 = .ok (.return_, 1) := by decide +kernel
set_option maxRecDepth 20000 in
theorem ggX6_estimateFrom_X8_take : GoodIn wsX6_estimateFrom wsX8_take := goodIn_r _ [13, 14, 15, 16, 17, 18, 19, 20, 61, 62, 63] (by decide +kernel) (by decide +kernel)
set_option maxRecDepth 20000 in
theorem gX6_estimateFrom_X8_take : GoodIn wsX6_estimateFrom (wsV RX6 177 RX8 yX8_take wsX8_take) := goodIn_app (goodIn_of _ (by decide +kernel)) ggX6_estimateFrom_X8_take
set_option maxRecDepth 20000 in
theorem ggX6_estimateFrom_X8_estimateA : GoodIn wsX6_estimateFrom wsX8_estimateA := goodIn_r _ [24, 15, 25, 61, 62, 63] (by decide +kernel) (by decide +kernel)
set_option maxRecDepth 20000 in
theorem gX6_estimateFrom_X8_estimateA : GoodIn wsX6_estimateFrom (wsV RX6 187 RX8 yX8_estimateA wsX8_estimateA) := goodIn_app (goodIn_of _ (by decide +kernel)) ggX6_estimateFrom_X8_estimateA
set_option maxRecDepth 20000 in
theorem ggX6_estimateFrom_X8_estimateB : GoodIn wsX6_estimateFrom wsX8_estimateB := goodIn_r _ [29, 16, 25, 61, 62, 63] (by decide +kernel) (by decide +kernel)
set_option maxRecDepth 20000 in
theorem gX6_estimateFrom_X8_estimateB : GoodIn wsX6_estimateFrom (wsV RX6 191 RX8 yX8_estimateB wsX8_estimateB) := goodIn_app (goodIn_of _ (by decide +kernel)) ggX6_estimateFrom_X8_estimateB
set_option maxRecDepth 20000 in
theorem ggX6_estimateFrom_X3_put : GoodIn wsX6_estimateFrom wsX3_put := goodIn_r _ [34, 35, 36, 37, 38, 57, 58, 59, 60] (by decide +kernel) (by decide +kernel)
set_option maxRecDepth 20000 in
theorem gX6_estimateFrom_X3_put : GoodIn wsX6_estimateFrom (wsV RX6 194 RX3 yX3_put wsX3_put) := goodIn_app (goodIn_of _ (by decide +kernel)) ggX6_estimateFrom_X3_put
theorem dX6_estimateFrom_0 : decode cX6_estimateFrom 0 = .ok (.aload_n 0, 1) := by decide +kernel
theorem dX6_estimateFrom_1 : decode cX6_estimateFrom 1 = .ok (.getfield 47, 3) := by decide +kernel
theorem dX6_estimateFrom_4 : decode cX6_estimateFrom 4 = .ok (.aload_n 0, 1) := by decide +kernel
theorem dX6_estimateFrom_5 : decode cX6_estimateFrom 5 = .ok (.getfield 130, 3) := by decide +kernel
theorem dX6_estimateFrom_8 : decode cX6_estimateFrom 8 = .ok (.aload_n 1, 1) := by decide +kernel
theorem dX6_estimateFrom_9 : decode cX6_estimateFrom 9 = .ok (.getfield 171, 3) := by decide +kernel
theorem dX6_estimateFrom_12 : decode cX6_estimateFrom 12 = .ok (.aload_n 1, 1) := by decide +kernel
theorem dX6_estimateFrom_13 : decode cX6_estimateFrom 13 = .ok (.getfield 174, 3) := by decide +kernel
theorem dX6_estimateFrom_16 : decode cX6_estimateFrom 16 = .ok (.invokevirtual 177, 3) := by decide +kernel
theorem dX6_estimateFrom_19 : decode cX6_estimateFrom 19 = .ok (.aload_n 0, 1) := by decide +kernel
theorem dX6_estimateFrom_20 : decode cX6_estimateFrom 20 = .ok (.getfield 51, 3) := by decide +kernel
theorem dX6_estimateFrom_23 : decode cX6_estimateFrom 23 = .ok (.aload_n 0, 1) := by decide +kernel
theorem dX6_estimateFrom_24 : decode cX6_estimateFrom 24 = .ok (.getfield 130, 3) := by decide +kernel
theorem dX6_estimateFrom_27 : decode cX6_estimateFrom 27 = .ok (.aload_n 1, 1) := by decide +kernel
theorem dX6_estimateFrom_28 : decode cX6_estimateFrom 28 = .ok (.getfield 181, 3) := by decide +kernel
theorem dX6_estimateFrom_31 : decode cX6_estimateFrom 31 = .ok (.aload_n 1, 1) := by decide +kernel
theorem dX6_estimateFrom_32 : decode cX6_estimateFrom 32 = .ok (.getfield 184, 3) := by decide +kernel
theorem dX6_estimateFrom_35 : decode cX6_estimateFrom 35 = .ok (.invokevirtual 177, 3) := by decide +kernel
theorem dX6_estimateFrom_38 : decode cX6_estimateFrom 38 = .ok (.aload_n 0, 1) := by decide +kernel
theorem dX6_estimateFrom_39 : decode cX6_estimateFrom 39 = .ok (.getfield 57, 3) := by decide +kernel
theorem dX6_estimateFrom_42 : decode cX6_estimateFrom 42 = .ok (.aload_n 0, 1) := by decide +kernel
theorem dX6_estimateFrom_43 : decode cX6_estimateFrom 43 = .ok (.getfield 47, 3) := by decide +kernel
theorem dX6_estimateFrom_46 : decode cX6_estimateFrom 46 = .ok (.invokevirtual 187, 3) := by decide +kernel
theorem dX6_estimateFrom_49 : decode cX6_estimateFrom 49 = .ok (.aload_n 0, 1) := by decide +kernel
theorem dX6_estimateFrom_50 : decode cX6_estimateFrom 50 = .ok (.getfield 47, 3) := by decide +kernel
theorem dX6_estimateFrom_53 : decode cX6_estimateFrom 53 = .ok (.invokevirtual 191, 3) := by decide +kernel
theorem dX6_estimateFrom_56 : decode cX6_estimateFrom 56 = .ok (.aload_n 0, 1) := by decide +kernel
theorem dX6_estimateFrom_57 : decode cX6_estimateFrom 57 = .ok (.getfield 51, 3) := by decide +kernel
theorem dX6_estimateFrom_60 : decode cX6_estimateFrom 60 = .ok (.invokevirtual 187, 3) := by decide +kernel
theorem dX6_estimateFrom_63 : decode cX6_estimateFrom 63 = .ok (.aload_n 0, 1) := by decide +kernel
theorem dX6_estimateFrom_64 : decode cX6_estimateFrom 64 = .ok (.getfield 51, 3) := by decide +kernel
theorem dX6_estimateFrom_67 : decode cX6_estimateFrom 67 = .ok (.invokevirtual 191, 3) := by decide +kernel
theorem dX6_estimateFrom_70 : decode cX6_estimateFrom 70 = .ok (.invokevirtual 194, 3) := by decide +kernel
theorem dX6_estimateFrom_73 : decode cX6_estimateFrom 73 = .ok (.return_, 1) := by decide +kernel
theorem dX6_remember_0 : decode cX6_remember 0 = .ok (.aload_n 0, 1) := by decide +kernel
theorem dX6_remember_1 : decode cX6_remember 1 = .ok (.getfield 57, 3) := by decide +kernel
theorem dX6_remember_4 : decode cX6_remember 4 = .ok (.getfield 171, 3) := by decide +kernel
theorem dX6_remember_7 : decode cX6_remember 7 = .ok (.i2l, 1) := by decide +kernel
theorem dX6_remember_8 : decode cX6_remember 8 = .ok (.lstore_n 1, 1) := by decide +kernel
theorem dX6_remember_9 : decode cX6_remember 9 = .ok (.aload_n 0, 1) := by decide +kernel
theorem dX6_remember_10 : decode cX6_remember 10 = .ok (.getfield 57, 3) := by decide +kernel
theorem dX6_remember_13 : decode cX6_remember 13 = .ok (.getfield 174, 3) := by decide +kernel
theorem dX6_remember_16 : decode cX6_remember 16 = .ok (.i2l, 1) := by decide +kernel
theorem dX6_remember_17 : decode cX6_remember 17 = .ok (.lstore_n 3, 1) := by decide +kernel
theorem dX6_remember_18 : decode cX6_remember 18 = .ok (.aload_n 0, 1) := by decide +kernel
theorem dX6_remember_19 : decode cX6_remember 19 = .ok (.getfield 17, 3) := by decide +kernel
theorem dX6_remember_22 : decode cX6_remember 22 = .ok (.iconst 1, 1) := by decide +kernel
theorem dX6_remember_23 : decode cX6_remember 23 = .ok (.iaload, 1) := by decide +kernel
theorem dX6_remember_24 : decode cX6_remember 24 = .ok (.i2l, 1) := by decide +kernel
theorem dX6_remember_25 : decode cX6_remember 25 = .ok (.lstore 5, 2) := by decide +kernel
theorem dX6_remember_27 : decode cX6_remember 27 = .ok (.lload_n 1, 1) := by decide +kernel
theorem dX6_remember_28 : decode cX6_remember 28 = .ok (.lload_n 1, 1) := by decide +kernel
theorem dX6_remember_29 : decode cX6_remember 29 = .ok (.lmul, 1) := by decide +kernel
theorem dX6_remember_30 : decode cX6_remember 30 = .ok (.lload_n 3, 1) := by decide +kernel
theorem dX6_remember_31 : decode cX6_remember 31 = .ok (.lload_n 3, 1) := by decide +kernel
theorem dX6_remember_32 : decode cX6_remember 32 = .ok (.lmul, 1) := by decide +kernel
theorem dX6_remember_33 : decode cX6_remember 33 = .ok (.ladd, 1) := by decide +kernel
theorem dX6_remember_34 : decode cX6_remember 34 = .ok (.lload 5, 2) := by decide +kernel
theorem dX6_remember_36 : decode cX6_remember 36 = .ok (.lload 5, 2) := by decide +kernel
theorem dX6_remember_38 : decode cX6_remember 38 = .ok (.lmul, 1) := by decide +kernel
theorem dX6_remember_39 : decode cX6_remember 39 = .ok (.lcmp, 1) := by decide +kernel
theorem dX6_remember_40 : decode cX6_remember 40 = .ok (.ifCond .lt 33, 3) := by decide +kernel
theorem dX6_remember_43 : decode cX6_remember 43 = .ok (.aload_n 0, 1) := by decide +kernel
theorem dX6_remember_44 : decode cX6_remember 44 = .ok (.aload_n 0, 1) := by decide +kernel
theorem dX6_remember_45 : decode cX6_remember 45 = .ok (.getfield 57, 3) := by decide +kernel
theorem dX6_remember_48 : decode cX6_remember 48 = .ok (.getfield 171, 3) := by decide +kernel
theorem dX6_remember_51 : decode cX6_remember 51 = .ok (.putfield 111, 3) := by decide +kernel
theorem dX6_remember_54 : decode cX6_remember 54 = .ok (.aload_n 0, 1) := by decide +kernel
theorem dX6_remember_55 : decode cX6_remember 55 = .ok (.aload_n 0, 1) := by decide +kernel
theorem dX6_remember_56 : decode cX6_remember 56 = .ok (.getfield 57, 3) := by decide +kernel
theorem dX6_remember_59 : decode cX6_remember 59 = .ok (.getfield 174, 3) := by decide +kernel
theorem dX6_remember_62 : decode cX6_remember 62 = .ok (.putfield 114, 3) := by decide +kernel
theorem dX6_remember_65 : decode cX6_remember 65 = .ok (.aload_n 0, 1) := by decide +kernel
theorem dX6_remember_66 : decode cX6_remember 66 = .ok (.iconst 0, 1) := by decide +kernel
theorem dX6_remember_67 : decode cX6_remember 67 = .ok (.putfield 117, 3) := by decide +kernel
theorem dX6_remember_70 : decode cX6_remember 70 = .ok (.goto 13, 3) := by decide +kernel
theorem dX6_remember_73 : decode cX6_remember 73 = .ok (.aload_n 0, 1) := by decide +kernel
theorem dX6_remember_74 : decode cX6_remember 74 = .ok (.dup, 1) := by decide +kernel
theorem dX6_remember_75 : decode cX6_remember 75 = .ok (.getfield 117, 3) := by decide +kernel
theorem dX6_remember_78 : decode cX6_remember 78 = .ok (.iconst 1, 1) := by decide +kernel
theorem dX6_remember_79 : decode cX6_remember 79 = .ok (.iadd, 1) := by decide +kernel
theorem dX6_remember_80 : decode cX6_remember 80 = .ok (.putfield 117, 3) := by decide +kernel
theorem dX6_remember_83 : decode cX6_remember 83 = .ok (.return_, 1) := by decide +kernel
set_option maxRecDepth 20000 in
theorem ggX6_watchSwing_X0_isIn : GoodIn wsX6_watchSwing wsX0_isIn := goodIn_r _ [12, 13, 14, 15, 16, 17, 18, 19, 20, 21, 22, 23, 24, 25, 26, 27, 28, 29, 65, 66, 67, 68, 69, 70, 71, 72] (by decide +kernel) (by decide +kernel)
set_option maxRecDepth 20000 in
theorem gX6_watchSwing_X0_isIn : GoodIn wsX6_watchSwing (wsV RX6 198 RX0 yX0_isIn wsX0_isIn) := goodIn_app (goodIn_of _ (by decide +kernel)) ggX6_watchSwing_X0_isIn
set_option maxRecDepth 20000 in
theorem ggX6_watchSwing_X6_endSwing : GoodIn wsX6_watchSwing wsX6_endSwing := goodIn_r _ [34, 4, 6, 7, 35, 36, 37, 38, 39, 40, 41, 42, 43, 44, 45, 46, 47, 48, 49, 50, 51, 52, 53, 54, 55, 56, 57, 58, 59, 60, 61, 62, 63, 64, 73, 74, 75] (by decide +kernel) (by decide +kernel)
set_option maxRecDepth 20000 in
theorem gX6_watchSwing_X6_endSwing : GoodIn wsX6_watchSwing (wsV RX6 202 RX6 yX6_endSwing wsX6_endSwing) := goodIn_app (goodIn_of _ (by decide +kernel)) ggX6_watchSwing_X6_endSwing
set_option maxRecDepth 20000 in
theorem ggX6_watchSwing_X1_note : GoodIn wsX6_watchSwing wsX1_note := goodIn_r _ [39, 40, 41, 42, 43, 44, 45, 46, 73, 74, 75] (by decide +kernel) (by decide +kernel)
set_option maxRecDepth 20000 in
theorem gX6_watchSwing_X1_note : GoodIn wsX6_watchSwing (wsV RX6 205 RX1 yX1_note wsX1_note) := goodIn_app (goodIn_of _ (by decide +kernel)) ggX6_watchSwing_X1_note
theorem dX6_watchSwing_0 : decode cX6_watchSwing 0 = .ok (.aload_n 0, 1) := by decide +kernel
theorem dX6_watchSwing_1 : decode cX6_watchSwing 1 = .ok (.getfield 64, 3) := by decide +kernel
theorem dX6_watchSwing_4 : decode cX6_watchSwing 4 = .ok (.aload_n 0, 1) := by decide +kernel
theorem dX6_watchSwing_5 : decode cX6_watchSwing 5 = .ok (.getfield 11, 3) := by decide +kernel
theorem dX6_watchSwing_8 : decode cX6_watchSwing 8 = .ok (.iconst 4, 1) := by decide +kernel
theorem dX6_watchSwing_9 : decode cX6_watchSwing 9 = .ok (.aaload, 1) := by decide +kernel
theorem dX6_watchSwing_10 : decode cX6_watchSwing 10 = .ok (.invokevirtual 198, 3) := by decide +kernel
theorem dX6_watchSwing_13 : decode cX6_watchSwing 13 = .ok (.ifCond .ne 15, 3) := by decide +kernel
theorem dX6_watchSwing_16 : decode cX6_watchSwing 16 = .ok (.aload_n 0, 1) := by decide +kernel
theorem dX6_watchSwing_17 : decode cX6_watchSwing 17 = .ok (.iconst 0, 1) := by decide +kernel
theorem dX6_watchSwing_18 : decode cX6_watchSwing 18 = .ok (.putfield 120, 3) := by decide +kernel
theorem dX6_watchSwing_21 : decode cX6_watchSwing 21 = .ok (.aload_n 0, 1) := by decide +kernel
theorem dX6_watchSwing_22 : decode cX6_watchSwing 22 = .ok (.invokevirtual 202, 3) := by decide +kernel
theorem dX6_watchSwing_25 : decode cX6_watchSwing 25 = .ok (.goto 71, 3) := by decide +kernel
theorem dX6_watchSwing_28 : decode cX6_watchSwing 28 = .ok (.aload_n 0, 1) := by decide +kernel
theorem dX6_watchSwing_29 : decode cX6_watchSwing 29 = .ok (.getfield 64, 3) := by decide +kernel
theorem dX6_watchSwing_32 : decode cX6_watchSwing 32 = .ok (.aload_n 0, 1) := by decide +kernel
theorem dX6_watchSwing_33 : decode cX6_watchSwing 33 = .ok (.getfield 11, 3) := by decide +kernel
theorem dX6_watchSwing_36 : decode cX6_watchSwing 36 = .ok (.iconst 3, 1) := by decide +kernel
theorem dX6_watchSwing_37 : decode cX6_watchSwing 37 = .ok (.aaload, 1) := by decide +kernel
theorem dX6_watchSwing_38 : decode cX6_watchSwing 38 = .ok (.invokevirtual 198, 3) := by decide +kernel
theorem dX6_watchSwing_41 : decode cX6_watchSwing 41 = .ok (.ifCond .ne 16, 3) := by decide +kernel
theorem dX6_watchSwing_44 : decode cX6_watchSwing 44 = .ok (.aload_n 0, 1) := by decide +kernel
theorem dX6_watchSwing_45 : decode cX6_watchSwing 45 = .ok (.dup, 1) := by decide +kernel
theorem dX6_watchSwing_46 : decode cX6_watchSwing 46 = .ok (.getfield 120, 3) := by decide +kernel
theorem dX6_watchSwing_49 : decode cX6_watchSwing 49 = .ok (.iconst 1, 1) := by decide +kernel
theorem dX6_watchSwing_50 : decode cX6_watchSwing 50 = .ok (.iadd, 1) := by decide +kernel
theorem dX6_watchSwing_51 : decode cX6_watchSwing 51 = .ok (.putfield 120, 3) := by decide +kernel
theorem dX6_watchSwing_54 : decode cX6_watchSwing 54 = .ok (.goto 42, 3) := by decide +kernel
theorem dX6_watchSwing_57 : decode cX6_watchSwing 57 = .ok (.aload_n 0, 1) := by decide +kernel
theorem dX6_watchSwing_58 : decode cX6_watchSwing 58 = .ok (.getfield 123, 3) := by decide +kernel
theorem dX6_watchSwing_61 : decode cX6_watchSwing 61 = .ok (.ifCond .ne 35, 3) := by decide +kernel
theorem dX6_watchSwing_64 : decode cX6_watchSwing 64 = .ok (.aload_n 0, 1) := by decide +kernel
theorem dX6_watchSwing_65 : decode cX6_watchSwing 65 = .ok (.getfield 120, 3) := by decide +kernel
theorem dX6_watchSwing_68 : decode cX6_watchSwing 68 = .ok (.aload_n 0, 1) := by decide +kernel
theorem dX6_watchSwing_69 : decode cX6_watchSwing 69 = .ok (.getfield 17, 3) := by decide +kernel
theorem dX6_watchSwing_72 : decode cX6_watchSwing 72 = .ok (.bipush 6, 2) := by decide +kernel
theorem dX6_watchSwing_74 : decode cX6_watchSwing 74 = .ok (.iaload, 1) := by decide +kernel
theorem dX6_watchSwing_75 : decode cX6_watchSwing 75 = .ok (.if_icmp .lt 21, 3) := by decide +kernel
theorem dX6_watchSwing_78 : decode cX6_watchSwing 78 = .ok (.aload_n 0, 1) := by decide +kernel
theorem dX6_watchSwing_79 : decode cX6_watchSwing 79 = .ok (.iconst 1, 1) := by decide +kernel
theorem dX6_watchSwing_80 : decode cX6_watchSwing 80 = .ok (.putfield 123, 3) := by decide +kernel
theorem dX6_watchSwing_83 : decode cX6_watchSwing 83 = .ok (.aload_n 0, 1) := by decide +kernel
theorem dX6_watchSwing_84 : decode cX6_watchSwing 84 = .ok (.getfield 71, 3) := by decide +kernel
theorem dX6_watchSwing_87 : decode cX6_watchSwing 87 = .ok (.aload_n 0, 1) := by decide +kernel
theorem dX6_watchSwing_88 : decode cX6_watchSwing 88 = .ok (.getfield 130, 3) := by decide +kernel
theorem dX6_watchSwing_91 : decode cX6_watchSwing 91 = .ok (.bipush 40, 2) := by decide +kernel
theorem dX6_watchSwing_93 : decode cX6_watchSwing 93 = .ok (.invokevirtual 205, 3) := by decide +kernel
theorem dX6_watchSwing_96 : decode cX6_watchSwing 96 = .ok (.return_, 1) := by decide +kernel
set_option maxRecDepth 20000 in
theorem ggX6_endSwing_X1_note : GoodIn wsX6_endSwing wsX1_note := goodIn_r _ [8, 9, 10, 11, 12, 13, 14, 15, 34, 35, 36] (by decide +kernel) (by decide +kernel)
set_option maxRecDepth 20000 in
theorem gX6_endSwing_X1_note : GoodIn wsX6_endSwing (wsV RX6 205 RX1 yX1_note wsX1_note) := goodIn_app (goodIn_of _ (by decide +kernel)) ggX6_endSwing_X1_note
theorem dX6_endSwing_0 : decode cX6_endSwing 0 = .ok (.aload_n 0, 1) := by decide +kernel
theorem dX6_endSwing_1 : decode cX6_endSwing 1 = .ok (.getfield 123, 3) := by decide +kernel
theorem dX6_endSwing_4 : decode cX6_endSwing 4 = .ok (.ifCond .eq 21, 3) := by decide +kernel
theorem dX6_endSwing_7 : decode cX6_endSwing 7 = .ok (.aload_n 0, 1) := by decide +kernel
theorem dX6_endSwing_8 : decode cX6_endSwing 8 = .ok (.iconst 0, 1) := by decide +kernel
theorem dX6_endSwing_9 : decode cX6_endSwing 9 = .ok (.putfield 123, 3) := by decide +kernel
theorem dX6_endSwing_12 : decode cX6_endSwing 12 = .ok (.aload_n 0, 1) := by decide +kernel
theorem dX6_endSwing_13 : decode cX6_endSwing 13 = .ok (.getfield 71, 3) := by decide +kernel
theorem dX6_endSwing_16 : decode cX6_endSwing 16 = .ok (.aload_n 0, 1) := by decide +kernel
theorem dX6_endSwing_17 : decode cX6_endSwing 17 = .ok (.getfield 130, 3) := by decide +kernel
theorem dX6_endSwing_20 : decode cX6_endSwing 20 = .ok (.bipush 41, 2) := by decide +kernel
theorem dX6_endSwing_22 : decode cX6_endSwing 22 = .ok (.invokevirtual 205, 3) := by decide +kernel
theorem dX6_endSwing_25 : decode cX6_endSwing 25 = .ok (.return_, 1) := by decide +kernel
set_option maxRecDepth 20000 in
theorem ggX6_pickUpZones_X6_torque : GoodIn wsX6_pickUpZones wsX6_torque := goodIn_r _ [11, 12, 13, 14, 15, 16, 17, 18, 19, 20, 21, 22, 23, 73, 74, 75, 76, 77, 78, 79, 80, 81, 82, 83, 84, 85, 86, 87, 88, 89, 90, 95, 96, 97, 98, 99, 100] (by decide +kernel) (by decide +kernel)
set_option maxRecDepth 20000 in
theorem gX6_pickUpZones_X6_torque : GoodIn wsX6_pickUpZones (wsV RX6 209 RX6 yX6_torque wsX6_torque) := goodIn_app (goodIn_of _ (by decide +kernel)) ggX6_pickUpZones_X6_torque
set_option maxRecDepth 20000 in
theorem ggX6_pickUpZones_X9_fits : GoodIn wsX6_pickUpZones wsX9_fits := goodIn_r _ [28, 29, 91, 92, 93, 94] (by decide +kernel) (by decide +kernel)
set_option maxRecDepth 20000 in
theorem gX6_pickUpZones_X9_fits : GoodIn wsX6_pickUpZones (wsV RX6 213 RX9 yX9_fits wsX9_fits) := goodIn_app (goodIn_of _ (by decide +kernel)) ggX6_pickUpZones_X9_fits
set_option maxRecDepth 20000 in
theorem ggX6_pickUpZones_X6_isBlocked : GoodIn wsX6_pickUpZones wsX6_isBlocked := goodIn_r _ [33, 34, 13, 35, 36, 37, 38, 73, 74, 75, 76, 77, 78, 79, 80, 81, 82, 83, 84, 85, 86, 87, 88, 89, 90] (by decide +kernel) (by decide +kernel)
set_option maxRecDepth 20000 in
theorem gX6_pickUpZones_X6_isBlocked : GoodIn wsX6_pickUpZones (wsV RX6 217 RX6 yX6_isBlocked wsX6_isBlocked) := goodIn_app (goodIn_of _ (by decide +kernel)) ggX6_pickUpZones_X6_isBlocked
set_option maxRecDepth 20000 in
theorem ggX6_pickUpZones_X0_isIn : GoodIn wsX6_pickUpZones wsX0_isIn := goodIn_r _ [43, 44, 45, 46, 47, 48, 49, 50, 51, 52, 53, 54, 55, 56, 57, 58, 59, 60, 101, 102, 103, 104, 105, 106, 107, 108] (by decide +kernel) (by decide +kernel)
set_option maxRecDepth 20000 in
theorem gX6_pickUpZones_X0_isIn : GoodIn wsX6_pickUpZones (wsV RX6 198 RX0 yX0_isIn wsX0_isIn) := goodIn_app (goodIn_of _ (by decide +kernel)) ggX6_pickUpZones_X0_isIn
set_option maxRecDepth 20000 in
theorem ggX6_pickUpZones_X1_note : GoodIn wsX6_pickUpZones wsX1_note := goodIn_r _ [65, 66, 67, 68, 69, 70, 71, 72, 109, 110, 111] (by decide +kernel) (by decide +kernel)
set_option maxRecDepth 20000 in
theorem gX6_pickUpZones_X1_note : GoodIn wsX6_pickUpZones (wsV RX6 205 RX1 yX1_note wsX1_note) := goodIn_app (goodIn_of _ (by decide +kernel)) ggX6_pickUpZones_X1_note
theorem dX6_pickUpZones_0 : decode cX6_pickUpZones 0 = .ok (.aload_n 0, 1) := by decide +kernel
theorem dX6_pickUpZones_1 : decode cX6_pickUpZones 1 = .ok (.invokevirtual 209, 3) := by decide +kernel
theorem dX6_pickUpZones_4 : decode cX6_pickUpZones 4 = .ok (.lstore_n 1, 1) := by decide +kernel
theorem dX6_pickUpZones_5 : decode cX6_pickUpZones 5 = .ok (.iconst 0, 1) := by decide +kernel
theorem dX6_pickUpZones_6 : decode cX6_pickUpZones 6 = .ok (.istore_n 3, 1) := by decide +kernel
theorem dX6_pickUpZones_7 : decode cX6_pickUpZones 7 = .ok (.iload_n 3, 1) := by decide +kernel
theorem dX6_pickUpZones_8 : decode cX6_pickUpZones 8 = .ok (.iconst 3, 1) := by decide +kernel
theorem dX6_pickUpZones_9 : decode cX6_pickUpZones 9 = .ok (.if_icmp .ge 103, 3) := by decide +kernel
theorem dX6_pickUpZones_12 : decode cX6_pickUpZones 12 = .ok (.aload_n 0, 1) := by decide +kernel
theorem dX6_pickUpZones_13 : decode cX6_pickUpZones 13 = .ok (.getfield 26, 3) := by decide +kernel
theorem dX6_pickUpZones_16 : decode cX6_pickUpZones 16 = .ok (.iload_n 3, 1) := by decide +kernel
theorem dX6_pickUpZones_17 : decode cX6_pickUpZones 17 = .ok (.aaload, 1) := by decide +kernel
theorem dX6_pickUpZones_18 : decode cX6_pickUpZones 18 = .ok (.lload_n 1, 1) := by decide +kernel
theorem dX6_pickUpZones_19 : decode cX6_pickUpZones 19 = .ok (.invokevirtual 213, 3) := by decide +kernel
theorem dX6_pickUpZones_22 : decode cX6_pickUpZones 22 = .ok (.ifCond .eq 31, 3) := by decide +kernel
theorem dX6_pickUpZones_25 : decode cX6_pickUpZones 25 = .ok (.aload_n 0, 1) := by decide +kernel
theorem dX6_pickUpZones_26 : decode cX6_pickUpZones 26 = .ok (.iload_n 3, 1) := by decide +kernel
theorem dX6_pickUpZones_27 : decode cX6_pickUpZones 27 = .ok (.invokevirtual 217, 3) := by decide +kernel
theorem dX6_pickUpZones_30 : decode cX6_pickUpZones 30 = .ok (.ifCond .ne 23, 3) := by decide +kernel
theorem dX6_pickUpZones_33 : decode cX6_pickUpZones 33 = .ok (.aload_n 0, 1) := by decide +kernel
theorem dX6_pickUpZones_34 : decode cX6_pickUpZones 34 = .ok (.getfield 64, 3) := by decide +kernel
theorem dX6_pickUpZones_37 : decode cX6_pickUpZones 37 = .ok (.aload_n 0, 1) := by decide +kernel
theorem dX6_pickUpZones_38 : decode cX6_pickUpZones 38 = .ok (.getfield 11, 3) := by decide +kernel
theorem dX6_pickUpZones_41 : decode cX6_pickUpZones 41 = .ok (.iload_n 3, 1) := by decide +kernel
theorem dX6_pickUpZones_42 : decode cX6_pickUpZones 42 = .ok (.aaload, 1) := by decide +kernel
theorem dX6_pickUpZones_43 : decode cX6_pickUpZones 43 = .ok (.invokevirtual 198, 3) := by decide +kernel
theorem dX6_pickUpZones_46 : decode cX6_pickUpZones 46 = .ok (.ifCond .eq 7, 3) := by decide +kernel
theorem dX6_pickUpZones_49 : decode cX6_pickUpZones 49 = .ok (.iconst 1, 1) := by decide +kernel
theorem dX6_pickUpZones_50 : decode cX6_pickUpZones 50 = .ok (.goto 4, 3) := by decide +kernel
theorem dX6_pickUpZones_53 : decode cX6_pickUpZones 53 = .ok (.iconst 0, 1) := by decide +kernel
theorem dX6_pickUpZones_54 : decode cX6_pickUpZones 54 = .ok (.istore 4, 2) := by decide +kernel
theorem dX6_pickUpZones_56 : decode cX6_pickUpZones 56 = .ok (.iload 4, 2) := by decide +kernel
theorem dX6_pickUpZones_58 : decode cX6_pickUpZones 58 = .ok (.aload_n 0, 1) := by decide +kernel
theorem dX6_pickUpZones_59 : decode cX6_pickUpZones 59 = .ok (.getfield 26, 3) := by decide +kernel
theorem dX6_pickUpZones_62 : decode cX6_pickUpZones 62 = .ok (.iload_n 3, 1) := by decide +kernel
theorem dX6_pickUpZones_63 : decode cX6_pickUpZones 63 = .ok (.aaload, 1) := by decide +kernel
theorem dX6_pickUpZones_64 : decode cX6_pickUpZones 64 = .ok (.getfield 221, 3) := by decide +kernel
theorem dX6_pickUpZones_67 : decode cX6_pickUpZones 67 = .ok (.if_icmp .eq 39, 3) := by decide +kernel
theorem dX6_pickUpZones_70 : decode cX6_pickUpZones 70 = .ok (.aload_n 0, 1) := by decide +kernel
theorem dX6_pickUpZones_71 : decode cX6_pickUpZones 71 = .ok (.getfield 26, 3) := by decide +kernel
theorem dX6_pickUpZones_74 : decode cX6_pickUpZones 74 = .ok (.iload_n 3, 1) := by decide +kernel
theorem dX6_pickUpZones_75 : decode cX6_pickUpZones 75 = .ok (.aaload, 1) := by decide +kernel
theorem dX6_pickUpZones_76 : decode cX6_pickUpZones 76 = .ok (.iload 4, 2) := by decide +kernel
theorem dX6_pickUpZones_78 : decode cX6_pickUpZones 78 = .ok (.putfield 221, 3) := by decide +kernel
theorem dX6_pickUpZones_81 : decode cX6_pickUpZones 81 = .ok (.aload_n 0, 1) := by decide +kernel
theorem dX6_pickUpZones_82 : decode cX6_pickUpZones 82 = .ok (.getfield 71, 3) := by decide +kernel
theorem dX6_pickUpZones_85 : decode cX6_pickUpZones 85 = .ok (.aload_n 0, 1) := by decide +kernel
theorem dX6_pickUpZones_86 : decode cX6_pickUpZones 86 = .ok (.getfield 130, 3) := by decide +kernel
theorem dX6_pickUpZones_89 : decode cX6_pickUpZones 89 = .ok (.iload 4, 2) := by decide +kernel
theorem dX6_pickUpZones_91 : decode cX6_pickUpZones 91 = .ok (.ifCond .eq 8, 3) := by decide +kernel
theorem dX6_pickUpZones_94 : decode cX6_pickUpZones 94 = .ok (.bipush 10, 2) := by decide +kernel
theorem dX6_pickUpZones_96 : decode cX6_pickUpZones 96 = .ok (.goto 5, 3) := by decide +kernel
theorem dX6_pickUpZones_99 : decode cX6_pickUpZones 99 = .ok (.bipush 20, 2) := by decide +kernel
theorem dX6_pickUpZones_101 : decode cX6_pickUpZones 101 = .ok (.iload_n 3, 1) := by decide +kernel
theorem dX6_pickUpZones_102 : decode cX6_pickUpZones 102 = .ok (.iadd, 1) := by decide +kernel
theorem dX6_pickUpZones_103 : decode cX6_pickUpZones 103 = .ok (.invokevirtual 205, 3) := by decide +kernel
theorem dX6_pickUpZones_106 : decode cX6_pickUpZones 106 = .ok (.iinc 3 1, 3) := by decide +kernel
theorem dX6_pickUpZones_109 : decode cX6_pickUpZones 109 = .ok (.goto (-102), 3) := by decide +kernel
theorem dX6_pickUpZones_112 : decode cX6_pickUpZones 112 = .ok (.return_, 1) := by decide +kernel
theorem dX6_torque_0 : decode cX6_torque 0 = .ok (.aload_n 0, 1) := by decide +kernel
theorem dX6_torque_1 : decode cX6_torque 1 = .ok (.getfield 117, 3) := by decide +kernel
theorem dX6_torque_4 : decode cX6_torque 4 = .ok (.aload_n 0, 1) := by decide +kernel
theorem dX6_torque_5 : decode cX6_torque 5 = .ok (.getfield 17, 3) := by decide +kernel
theorem dX6_torque_8 : decode cX6_torque 8 = .ok (.iconst 2, 1) := by decide +kernel
theorem dX6_torque_9 : decode cX6_torque 9 = .ok (.iaload, 1) := by decide +kernel
theorem dX6_torque_10 : decode cX6_torque 10 = .ok (.if_icmp .gt 7, 3) := by decide +kernel
theorem dX6_torque_13 : decode cX6_torque 13 = .ok (.iconst 1, 1) := by decide +kernel
theorem dX6_torque_14 : decode cX6_torque 14 = .ok (.goto 4, 3) := by decide +kernel
theorem dX6_torque_17 : decode cX6_torque 17 = .ok (.iconst 0, 1) := by decide +kernel
theorem dX6_torque_18 : decode cX6_torque 18 = .ok (.istore_n 1, 1) := by decide +kernel
theorem dX6_torque_19 : decode cX6_torque 19 = .ok (.iload_n 1, 1) := by decide +kernel
theorem dX6_torque_20 : decode cX6_torque 20 = .ok (.ifCond .eq 11, 3) := by decide +kernel
theorem dX6_torque_23 : decode cX6_torque 23 = .ok (.aload_n 0, 1) := by decide +kernel
theorem dX6_torque_24 : decode cX6_torque 24 = .ok (.getfield 111, 3) := by decide +kernel
theorem dX6_torque_27 : decode cX6_torque 27 = .ok (.i2l, 1) := by decide +kernel
theorem dX6_torque_28 : decode cX6_torque 28 = .ok (.goto 11, 3) := by decide +kernel
theorem dX6_torque_31 : decode cX6_torque 31 = .ok (.aload_n 0, 1) := by decide +kernel
theorem dX6_torque_32 : decode cX6_torque 32 = .ok (.getfield 57, 3) := by decide +kernel
theorem dX6_torque_35 : decode cX6_torque 35 = .ok (.getfield 171, 3) := by decide +kernel
theorem dX6_torque_38 : decode cX6_torque 38 = .ok (.i2l, 1) := by decide +kernel
theorem dX6_torque_39 : decode cX6_torque 39 = .ok (.lstore_n 2, 1) := by decide +kernel
theorem dX6_torque_40 : decode cX6_torque 40 = .ok (.iload_n 1, 1) := by decide +kernel
theorem dX6_torque_41 : decode cX6_torque 41 = .ok (.ifCond .eq 11, 3) := by decide +kernel
theorem dX6_torque_44 : decode cX6_torque 44 = .ok (.aload_n 0, 1) := by decide +kernel
theorem dX6_torque_45 : decode cX6_torque 45 = .ok (.getfield 114, 3) := by decide +kernel
theorem dX6_torque_48 : decode cX6_torque 48 = .ok (.i2l, 1) := by decide +kernel
theorem dX6_torque_49 : decode cX6_torque 49 = .ok (.goto 11, 3) := by decide +kernel
theorem dX6_torque_52 : decode cX6_torque 52 = .ok (.aload_n 0, 1) := by decide +kernel
theorem dX6_torque_53 : decode cX6_torque 53 = .ok (.getfield 57, 3) := by decide +kernel
theorem dX6_torque_56 : decode cX6_torque 56 = .ok (.getfield 174, 3) := by decide +kernel
theorem dX6_torque_59 : decode cX6_torque 59 = .ok (.i2l, 1) := by decide +kernel
theorem dX6_torque_60 : decode cX6_torque 60 = .ok (.lstore 4, 2) := by decide +kernel
theorem dX6_torque_62 : decode cX6_torque 62 = .ok (.aload_n 0, 1) := by decide +kernel
theorem dX6_torque_63 : decode cX6_torque 63 = .ok (.getfield 57, 3) := by decide +kernel
theorem dX6_torque_66 : decode cX6_torque 66 = .ok (.getfield 181, 3) := by decide +kernel
theorem dX6_torque_69 : decode cX6_torque 69 = .ok (.i2l, 1) := by decide +kernel
theorem dX6_torque_70 : decode cX6_torque 70 = .ok (.lstore 6, 2) := by decide +kernel
theorem dX6_torque_72 : decode cX6_torque 72 = .ok (.aload_n 0, 1) := by decide +kernel
theorem dX6_torque_73 : decode cX6_torque 73 = .ok (.getfield 57, 3) := by decide +kernel
theorem dX6_torque_76 : decode cX6_torque 76 = .ok (.getfield 184, 3) := by decide +kernel
theorem dX6_torque_79 : decode cX6_torque 79 = .ok (.i2l, 1) := by decide +kernel
theorem dX6_torque_80 : decode cX6_torque 80 = .ok (.lstore 8, 2) := by decide +kernel
theorem dX6_torque_82 : decode cX6_torque 82 = .ok (.aload_n 0, 1) := by decide +kernel
theorem dX6_torque_83 : decode cX6_torque 83 = .ok (.getfield 33, 3) := by decide +kernel
theorem dX6_torque_86 : decode cX6_torque 86 = .ok (.getfield 224, 3) := by decide +kernel
theorem dX6_torque_89 : decode cX6_torque 89 = .ok (.iconst 2, 1) := by decide +kernel
theorem dX6_torque_90 : decode cX6_torque 90 = .ok (.iaload, 1) := by decide +kernel
theorem dX6_torque_91 : decode cX6_torque 91 = .ok (.i2l, 1) := by decide +kernel
theorem dX6_torque_92 : decode cX6_torque 92 = .ok (.lload_n 2, 1) := by decide +kernel
theorem dX6_torque_93 : decode cX6_torque 93 = .ok (.lload 6, 2) := by decide +kernel
theorem dX6_torque_95 : decode cX6_torque 95 = .ok (.lmul, 1) := by decide +kernel
theorem dX6_torque_96 : decode cX6_torque 96 = .ok (.lload 4, 2) := by decide +kernel
theorem dX6_torque_98 : decode cX6_torque 98 = .ok (.lload 8, 2) := by decide +kernel
theorem dX6_torque_100 : decode cX6_torque 100 = .ok (.lmul, 1) := by decide +kernel
theorem dX6_torque_101 : decode cX6_torque 101 = .ok (.ladd, 1) := by decide +kernel
theorem dX6_torque_102 : decode cX6_torque 102 = .ok (.lmul, 1) := by decide +kernel
theorem dX6_torque_103 : decode cX6_torque 103 = .ok (.aload_n 0, 1) := by decide +kernel
theorem dX6_torque_104 : decode cX6_torque 104 = .ok (.getfield 33, 3) := by decide +kernel
theorem dX6_torque_107 : decode cX6_torque 107 = .ok (.getfield 227, 3) := by decide +kernel
theorem dX6_torque_110 : decode cX6_torque 110 = .ok (.iconst 2, 1) := by decide +kernel
theorem dX6_torque_111 : decode cX6_torque 111 = .ok (.iaload, 1) := by decide +kernel
theorem dX6_torque_112 : decode cX6_torque 112 = .ok (.i2l, 1) := by decide +kernel
theorem dX6_torque_113 : decode cX6_torque 113 = .ok (.lload 4, 2) := by decide +kernel
theorem dX6_torque_115 : decode cX6_torque 115 = .ok (.lload 6, 2) := by decide +kernel
theorem dX6_torque_117 : decode cX6_torque 117 = .ok (.lmul, 1) := by decide +kernel
theorem dX6_torque_118 : decode cX6_torque 118 = .ok (.lload_n 2, 1) := by decide +kernel
theorem dX6_torque_119 : decode cX6_torque 119 = .ok (.lload 8, 2) := by decide +kernel
theorem dX6_torque_121 : decode cX6_torque 121 = .ok (.lmul, 1) := by decide +kernel
theorem dX6_torque_122 : decode cX6_torque 122 = .ok (.lsub, 1) := by decide +kernel
theorem dX6_torque_123 : decode cX6_torque 123 = .ok (.lmul, 1) := by decide +kernel
theorem dX6_torque_124 : decode cX6_torque 124 = .ok (.ladd, 1) := by decide +kernel
theorem dX6_torque_125 : decode cX6_torque 125 = .ok (.lreturn, 1) := by decide +kernel
set_option maxRecDepth 20000 in
theorem ggX6_isBlocked_X10_isInSet : GoodIn wsX6_isBlocked wsX10_isInSet := goodIn_r _ [6] (by decide +kernel) (by decide +kernel)
set_option maxRecDepth 20000 in
theorem gX6_isBlocked_X10_isInSet_n230 : GoodIn wsX6_isBlocked (wsX10_isInSet) := ggX6_isBlocked_X10_isInSet
theorem dX6_isBlocked_0 : decode cX6_isBlocked 0 = .ok (.aload_n 0, 1) := by decide +kernel
theorem dX6_isBlocked_1 : decode cX6_isBlocked 1 = .ok (.getfield 123, 3) := by decide +kernel
theorem dX6_isBlocked_4 : decode cX6_isBlocked 4 = .ok (.ifCond .eq 17, 3) := by decide +kernel
theorem dX6_isBlocked_7 : decode cX6_isBlocked 7 = .ok (.iload_n 1, 1) := by decide +kernel
theorem dX6_isBlocked_8 : decode cX6_isBlocked 8 = .ok (.aload_n 0, 1) := by decide +kernel
theorem dX6_isBlocked_9 : decode cX6_isBlocked 9 = .ok (.getfield 17, 3) := by decide +kernel
theorem dX6_isBlocked_12 : decode cX6_isBlocked 12 = .ok (.bipush 7, 2) := by decide +kernel
theorem dX6_isBlocked_14 : decode cX6_isBlocked 14 = .ok (.iaload, 1) := by decide +kernel
theorem dX6_isBlocked_15 : decode cX6_isBlocked 15 = .ok (.invokestatic 230, 3) := by decide +kernel
theorem dX6_isBlocked_18 : decode cX6_isBlocked 18 = .ok (.ifCond .ne 23, 3) := by decide +kernel
theorem dX6_isBlocked_21 : decode cX6_isBlocked 21 = .ok (.aload_n 0, 1) := by decide +kernel
theorem dX6_isBlocked_22 : decode cX6_isBlocked 22 = .ok (.getfield 127, 3) := by decide +kernel
theorem dX6_isBlocked_25 : decode cX6_isBlocked 25 = .ok (.ifCond .eq 20, 3) := by decide +kernel
theorem dX6_isBlocked_28 : decode cX6_isBlocked 28 = .ok (.iload_n 1, 1) := by decide +kernel
theorem dX6_isBlocked_29 : decode cX6_isBlocked 29 = .ok (.aload_n 0, 1) := by decide +kernel
theorem dX6_isBlocked_30 : decode cX6_isBlocked 30 = .ok (.getfield 17, 3) := by decide +kernel
theorem dX6_isBlocked_33 : decode cX6_isBlocked 33 = .ok (.iconst 5, 1) := by decide +kernel
theorem dX6_isBlocked_34 : decode cX6_isBlocked 34 = .ok (.iaload, 1) := by decide +kernel
theorem dX6_isBlocked_35 : decode cX6_isBlocked 35 = .ok (.invokestatic 230, 3) := by decide +kernel
theorem dX6_isBlocked_38 : decode cX6_isBlocked 38 = .ok (.ifCond .eq 7, 3) := by decide +kernel
theorem dX6_isBlocked_41 : decode cX6_isBlocked 41 = .ok (.iconst 1, 1) := by decide +kernel
theorem dX6_isBlocked_42 : decode cX6_isBlocked 42 = .ok (.goto 4, 3) := by decide +kernel
theorem dX6_isBlocked_45 : decode cX6_isBlocked 45 = .ok (.iconst 0, 1) := by decide +kernel
theorem dX6_isBlocked_46 : decode cX6_isBlocked 46 = .ok (.ireturn, 1) := by decide +kernel
theorem dX6_runTimers_0 : decode cX6_runTimers 0 = .ok (.iconst 0, 1) := by decide +kernel
theorem dX6_runTimers_1 : decode cX6_runTimers 1 = .ok (.istore_n 1, 1) := by decide +kernel
theorem dX6_runTimers_2 : decode cX6_runTimers 2 = .ok (.iload_n 1, 1) := by decide +kernel
theorem dX6_runTimers_3 : decode cX6_runTimers 3 = .ok (.iconst 3, 1) := by decide +kernel
theorem dX6_runTimers_4 : decode cX6_runTimers 4 = .ok (.if_icmp .ge 45, 3) := by decide +kernel
theorem dX6_runTimers_7 : decode cX6_runTimers 7 = .ok (.aload_n 0, 1) := by decide +kernel
theorem dX6_runTimers_8 : decode cX6_runTimers 8 = .ok (.getfield 26, 3) := by decide +kernel
theorem dX6_runTimers_11 : decode cX6_runTimers 11 = .ok (.iload_n 1, 1) := by decide +kernel
theorem dX6_runTimers_12 : decode cX6_runTimers 12 = .ok (.aaload, 1) := by decide +kernel
theorem dX6_runTimers_13 : decode cX6_runTimers 13 = .ok (.aload_n 0, 1) := by decide +kernel
theorem dX6_runTimers_14 : decode cX6_runTimers 14 = .ok (.getfield 26, 3) := by decide +kernel
theorem dX6_runTimers_17 : decode cX6_runTimers 17 = .ok (.iload_n 1, 1) := by decide +kernel
theorem dX6_runTimers_18 : decode cX6_runTimers 18 = .ok (.aaload, 1) := by decide +kernel
theorem dX6_runTimers_19 : decode cX6_runTimers 19 = .ok (.getfield 221, 3) := by decide +kernel
theorem dX6_runTimers_22 : decode cX6_runTimers 22 = .ok (.ifCond .eq 17, 3) := by decide +kernel
theorem dX6_runTimers_25 : decode cX6_runTimers 25 = .ok (.aload_n 0, 1) := by decide +kernel
theorem dX6_runTimers_26 : decode cX6_runTimers 26 = .ok (.getfield 26, 3) := by decide +kernel
theorem dX6_runTimers_29 : decode cX6_runTimers 29 = .ok (.iload_n 1, 1) := by decide +kernel
theorem dX6_runTimers_30 : decode cX6_runTimers 30 = .ok (.aaload, 1) := by decide +kernel
theorem dX6_runTimers_31 : decode cX6_runTimers 31 = .ok (.getfield 133, 3) := by decide +kernel
theorem dX6_runTimers_34 : decode cX6_runTimers 34 = .ok (.iconst 1, 1) := by decide +kernel
theorem dX6_runTimers_35 : decode cX6_runTimers 35 = .ok (.iadd, 1) := by decide +kernel
theorem dX6_runTimers_36 : decode cX6_runTimers 36 = .ok (.goto 4, 3) := by decide +kernel
theorem dX6_runTimers_39 : decode cX6_runTimers 39 = .ok (.iconst 0, 1) := by decide +kernel
theorem dX6_runTimers_40 : decode cX6_runTimers 40 = .ok (.putfield 133, 3) := by decide +kernel
theorem dX6_runTimers_43 : decode cX6_runTimers 43 = .ok (.iinc 1 1, 3) := by decide +kernel
theorem dX6_runTimers_46 : decode cX6_runTimers 46 = .ok (.goto (-44), 3) := by decide +kernel
theorem dX6_runTimers_49 : decode cX6_runTimers 49 = .ok (.return_, 1) := by decide +kernel
set_option maxRecDepth 20000 in
theorem ggX6_trip_X1_note : GoodIn wsX6_trip wsX1_note := goodIn_r _ [11, 12, 13, 14, 15, 16, 17, 18, 41, 42, 43] (by decide +kernel) (by decide +kernel)
set_option maxRecDepth 20000 in
theorem gX6_trip_X1_note : GoodIn wsX6_trip (wsV RX6 205 RX1 yX1_note wsX1_note) := goodIn_app (goodIn_of _ (by decide +kernel)) ggX6_trip_X1_note
theorem dX6_trip_0 : decode cX6_trip 0 = .ok (.iconst 0, 1) := by decide +kernel
theorem dX6_trip_1 : decode cX6_trip 1 = .ok (.istore_n 1, 1) := by decide +kernel
theorem dX6_trip_2 : decode cX6_trip 2 = .ok (.iload_n 1, 1) := by decide +kernel
theorem dX6_trip_3 : decode cX6_trip 3 = .ok (.iconst 3, 1) := by decide +kernel
theorem dX6_trip_4 : decode cX6_trip 4 = .ok (.if_icmp .ge 59, 3) := by decide +kernel
theorem dX6_trip_7 : decode cX6_trip 7 = .ok (.aload_n 0, 1) := by decide +kernel
theorem dX6_trip_8 : decode cX6_trip 8 = .ok (.getfield 75, 3) := by decide +kernel
theorem dX6_trip_11 : decode cX6_trip 11 = .ok (.bipush (-6), 2) := by decide +kernel
theorem dX6_trip_13 : decode cX6_trip 13 = .ok (.if_icmp .ne 50, 3) := by decide +kernel
theorem dX6_trip_16 : decode cX6_trip 16 = .ok (.aload_n 0, 1) := by decide +kernel
theorem dX6_trip_17 : decode cX6_trip 17 = .ok (.getfield 26, 3) := by decide +kernel
theorem dX6_trip_20 : decode cX6_trip 20 = .ok (.iload_n 1, 1) := by decide +kernel
theorem dX6_trip_21 : decode cX6_trip 21 = .ok (.aaload, 1) := by decide +kernel
theorem dX6_trip_22 : decode cX6_trip 22 = .ok (.getfield 133, 3) := by decide +kernel
theorem dX6_trip_25 : decode cX6_trip 25 = .ok (.aload_n 0, 1) := by decide +kernel
theorem dX6_trip_26 : decode cX6_trip 26 = .ok (.getfield 26, 3) := by decide +kernel
theorem dX6_trip_29 : decode cX6_trip 29 = .ok (.iload_n 1, 1) := by decide +kernel
theorem dX6_trip_30 : decode cX6_trip 30 = .ok (.aaload, 1) := by decide +kernel
theorem dX6_trip_31 : decode cX6_trip 31 = .ok (.getfield 233, 3) := by decide +kernel
theorem dX6_trip_34 : decode cX6_trip 34 = .ok (.if_icmp .lt 23, 3) := by decide +kernel
theorem dX6_trip_37 : decode cX6_trip 37 = .ok (.aload_n 0, 1) := by decide +kernel
theorem dX6_trip_38 : decode cX6_trip 38 = .ok (.iload_n 1, 1) := by decide +kernel
theorem dX6_trip_39 : decode cX6_trip 39 = .ok (.putfield 75, 3) := by decide +kernel
theorem dX6_trip_42 : decode cX6_trip 42 = .ok (.aload_n 0, 1) := by decide +kernel
theorem dX6_trip_43 : decode cX6_trip 43 = .ok (.getfield 71, 3) := by decide +kernel
theorem dX6_trip_46 : decode cX6_trip 46 = .ok (.aload_n 0, 1) := by decide +kernel
theorem dX6_trip_47 : decode cX6_trip 47 = .ok (.getfield 130, 3) := by decide +kernel
theorem dX6_trip_50 : decode cX6_trip 50 = .ok (.bipush 30, 2) := by decide +kernel
theorem dX6_trip_52 : decode cX6_trip 52 = .ok (.iload_n 1, 1) := by decide +kernel
theorem dX6_trip_53 : decode cX6_trip 53 = .ok (.iadd, 1) := by decide +kernel
theorem dX6_trip_54 : decode cX6_trip 54 = .ok (.invokevirtual 205, 3) := by decide +kernel
theorem dX6_trip_57 : decode cX6_trip 57 = .ok (.iinc 1 1, 3) := by decide +kernel
theorem dX6_trip_60 : decode cX6_trip 60 = .ok (.goto (-58), 3) := by decide +kernel
theorem dX6_trip_63 : decode cX6_trip 63 = .ok (.return_, 1) := by decide +kernel
set_option maxRecDepth 20000 in
theorem ggX7_init_X3_init : GoodIn wsX7_init wsX3_init := goodIn_r _ [11, 12, 2, 3] (by decide +kernel) (by decide +kernel)
set_option maxRecDepth 20000 in
theorem gX7_init_X3_init_n9 : GoodIn wsX7_init (wsX3_init) := ggX7_init_X3_init
theorem dX7_init_0 : decode cX7_init 0 = .ok (.aload_n 0, 1) := by decide +kernel
theorem dX7_init_1 : decode cX7_init 1 = .ok (.invokespecial 1, 3) := by decide +kernel
theorem dX7_init_4 : decode cX7_init 4 = .ok (.aload_n 0, 1) := by decide +kernel
theorem dX7_init_5 : decode cX7_init 5 = .ok (.new 7, 3) := by decide +kernel
theorem dX7_init_8 : decode cX7_init 8 = .ok (.dup, 1) := by decide +kernel
theorem dX7_init_9 : decode cX7_init 9 = .ok (.invokespecial 9, 3) := by decide +kernel
theorem dX7_init_12 : decode cX7_init 12 = .ok (.putfield 10, 3) := by decide +kernel
theorem dX7_init_15 : decode cX7_init 15 = .ok (.aload_n 0, 1) := by decide +kernel
theorem dX7_init_16 : decode cX7_init 16 = .ok (.new 7, 3) := by decide +kernel
theorem dX7_init_19 : decode cX7_init 19 = .ok (.dup, 1) := by decide +kernel
theorem dX7_init_20 : decode cX7_init 20 = .ok (.invokespecial 9, 3) := by decide +kernel
theorem dX7_init_23 : decode cX7_init 23 = .ok (.putfield 16, 3) := by decide +kernel
theorem dX7_init_26 : decode cX7_init 26 = .ok (.aload_n 0, 1) := by decide +kernel
theorem dX7_init_27 : decode cX7_init 27 = .ok (.new 7, 3) := by decide +kernel
theorem dX7_init_30 : decode cX7_init 30 = .ok (.dup, 1) := by decide +kernel
theorem dX7_init_31 : decode cX7_init 31 = .ok (.invokespecial 9, 3) := by decide +kernel
theorem dX7_init_34 : decode cX7_init 34 = .ok (.putfield 19, 3) := by decide +kernel
theorem dX7_init_37 : decode cX7_init 37 = .ok (.return_, 1) := by decide +kernel
set_option maxRecDepth 20000 in
theorem ggX7_becomeLike_X3_becomeLike : GoodIn wsX7_becomeLike wsX3_becomeLike := goodIn_r _ [10, 11, 12, 13, 14, 15, 16, 17, 9, 18, 24, 25, 26, 27] (by decide +kernel) (by decide +kernel)
set_option maxRecDepth 20000 in
theorem gX7_becomeLike_X3_becomeLike : GoodIn wsX7_becomeLike (wsV RX7 22 RX3 yX3_becomeLike wsX3_becomeLike) := goodIn_app (goodIn_of _ (by decide +kernel)) ggX7_becomeLike_X3_becomeLike
theorem dX7_becomeLike_0 : decode cX7_becomeLike 0 = .ok (.aload_n 0, 1) := by decide +kernel
theorem dX7_becomeLike_1 : decode cX7_becomeLike 1 = .ok (.getfield 10, 3) := by decide +kernel
theorem dX7_becomeLike_4 : decode cX7_becomeLike 4 = .ok (.aload_n 1, 1) := by decide +kernel
theorem dX7_becomeLike_5 : decode cX7_becomeLike 5 = .ok (.getfield 10, 3) := by decide +kernel
theorem dX7_becomeLike_8 : decode cX7_becomeLike 8 = .ok (.invokevirtual 22, 3) := by decide +kernel
theorem dX7_becomeLike_11 : decode cX7_becomeLike 11 = .ok (.aload_n 0, 1) := by decide +kernel
theorem dX7_becomeLike_12 : decode cX7_becomeLike 12 = .ok (.getfield 16, 3) := by decide +kernel
theorem dX7_becomeLike_15 : decode cX7_becomeLike 15 = .ok (.aload_n 1, 1) := by decide +kernel
theorem dX7_becomeLike_16 : decode cX7_becomeLike 16 = .ok (.getfield 16, 3) := by decide +kernel
theorem dX7_becomeLike_19 : decode cX7_becomeLike 19 = .ok (.invokevirtual 22, 3) := by decide +kernel
theorem dX7_becomeLike_22 : decode cX7_becomeLike 22 = .ok (.aload_n 0, 1) := by decide +kernel
theorem dX7_becomeLike_23 : decode cX7_becomeLike 23 = .ok (.getfield 19, 3) := by decide +kernel
theorem dX7_becomeLike_26 : decode cX7_becomeLike 26 = .ok (.aload_n 1, 1) := by decide +kernel
theorem dX7_becomeLike_27 : decode cX7_becomeLike 27 = .ok (.getfield 19, 3) := by decide +kernel
theorem dX7_becomeLike_30 : decode cX7_becomeLike 30 = .ok (.invokevirtual 22, 3) := by decide +kernel
theorem dX7_becomeLike_33 : decode cX7_becomeLike 33 = .ok (.aload_n 0, 1) := by decide +kernel
theorem dX7_becomeLike_34 : decode cX7_becomeLike 34 = .ok (.aload_n 1, 1) := by decide +kernel
theorem dX7_becomeLike_35 : decode cX7_becomeLike 35 = .ok (.getfield 26, 3) := by decide +kernel
theorem dX7_becomeLike_38 : decode cX7_becomeLike 38 = .ok (.putfield 26, 3) := by decide +kernel
theorem dX7_becomeLike_41 : decode cX7_becomeLike 41 = .ok (.aload_n 0, 1) := by decide +kernel
theorem dX7_becomeLike_42 : decode cX7_becomeLike 42 = .ok (.aload_n 1, 1) := by decide +kernel
theorem dX7_becomeLike_43 : decode cX7_becomeLike 43 = .ok (.getfield 30, 3) := by decide +kernel
theorem dX7_becomeLike_46 : decode cX7_becomeLike 46 = .ok (.putfield 30, 3) := by decide +kernel
theorem dX7_becomeLike_49 : decode cX7_becomeLike 49 = .ok (.return_, 1) := by decide +kernel
set_option maxRecDepth 20000 in
theorem ggX7_jumpTo_X3_becomeLike : GoodIn wsX7_jumpTo wsX3_becomeLike := goodIn_r _ [6, 7, 8, 9, 10, 11, 12, 13, 5, 14, 26, 27, 28, 29] (by decide +kernel) (by decide +kernel)
set_option maxRecDepth 20000 in
theorem gX7_jumpTo_X3_becomeLike : GoodIn wsX7_jumpTo (wsV RX7 22 RX3 yX3_becomeLike wsX3_becomeLike) := goodIn_app (goodIn_of _ (by decide +kernel)) ggX7_jumpTo_X3_becomeLike
set_option maxRecDepth 20000 in
theorem ggX7_jumpTo_X7_endRamp : GoodIn wsX7_jumpTo wsX7_endRamp := goodIn_r _ [19, 20, 21, 22, 23, 24, 25] (by decide +kernel) (by decide +kernel)
set_option maxRecDepth 20000 in
theorem gX7_jumpTo_X7_endRamp : GoodIn wsX7_jumpTo (wsV RX7 33 RX7 yX7_endRamp wsX7_endRamp) := goodIn_app (goodIn_of _ (by decide +kernel)) ggX7_jumpTo_X7_endRamp
theorem dX7_jumpTo_0 : decode cX7_jumpTo 0 = .ok (.aload_n 0, 1) := by decide +kernel
theorem dX7_jumpTo_1 : decode cX7_jumpTo 1 = .ok (.getfield 10, 3) := by decide +kernel
theorem dX7_jumpTo_4 : decode cX7_jumpTo 4 = .ok (.aload_n 1, 1) := by decide +kernel
theorem dX7_jumpTo_5 : decode cX7_jumpTo 5 = .ok (.invokevirtual 22, 3) := by decide +kernel
theorem dX7_jumpTo_8 : decode cX7_jumpTo 8 = .ok (.aload_n 0, 1) := by decide +kernel
theorem dX7_jumpTo_9 : decode cX7_jumpTo 9 = .ok (.invokevirtual 33, 3) := by decide +kernel
theorem dX7_jumpTo_12 : decode cX7_jumpTo 12 = .ok (.return_, 1) := by decide +kernel
theorem dX7_endRamp_0 : decode cX7_endRamp 0 = .ok (.aload_n 0, 1) := by decide +kernel
theorem dX7_endRamp_1 : decode cX7_endRamp 1 = .ok (.iconst 0, 1) := by decide +kernel
theorem dX7_endRamp_2 : decode cX7_endRamp 2 = .ok (.putfield 30, 3) := by decide +kernel
theorem dX7_endRamp_5 : decode cX7_endRamp 5 = .ok (.return_, 1) := by decide +kernel
set_option maxRecDepth 20000 in
theorem ggX7_beginRamp_X3_becomeLike : GoodIn wsX7_beginRamp wsX3_becomeLike := goodIn_r _ [9, 10, 11, 12, 13, 14, 15, 16, 8, 17, 23, 24, 25, 26] (by decide +kernel) (by decide +kernel)
set_option maxRecDepth 20000 in
theorem gX7_beginRamp_X3_becomeLike : GoodIn wsX7_beginRamp (wsV RX7 22 RX3 yX3_becomeLike wsX3_becomeLike) := goodIn_app (goodIn_of _ (by decide +kernel)) ggX7_beginRamp_X3_becomeLike
theorem dX7_beginRamp_0 : decode cX7_beginRamp 0 = .ok (.aload_n 0, 1) := by decide +kernel
theorem dX7_beginRamp_1 : decode cX7_beginRamp 1 = .ok (.getfield 16, 3) := by decide +kernel
theorem dX7_beginRamp_4 : decode cX7_beginRamp 4 = .ok (.aload_n 0, 1) := by decide +kernel
theorem dX7_beginRamp_5 : decode cX7_beginRamp 5 = .ok (.getfield 10, 3) := by decide +kernel
theorem dX7_beginRamp_8 : decode cX7_beginRamp 8 = .ok (.invokevirtual 22, 3) := by decide +kernel
theorem dX7_beginRamp_11 : decode cX7_beginRamp 11 = .ok (.aload_n 0, 1) := by decide +kernel
theorem dX7_beginRamp_12 : decode cX7_beginRamp 12 = .ok (.iload_n 1, 1) := by decide +kernel
theorem dX7_beginRamp_13 : decode cX7_beginRamp 13 = .ok (.putfield 26, 3) := by decide +kernel
theorem dX7_beginRamp_16 : decode cX7_beginRamp 16 = .ok (.aload_n 0, 1) := by decide +kernel
theorem dX7_beginRamp_17 : decode cX7_beginRamp 17 = .ok (.iload_n 1, 1) := by decide +kernel
theorem dX7_beginRamp_18 : decode cX7_beginRamp 18 = .ok (.putfield 30, 3) := by decide +kernel
theorem dX7_beginRamp_21 : decode cX7_beginRamp 21 = .ok (.return_, 1) := by decide +kernel
set_option maxRecDepth 20000 in
theorem ggX7_advance_X7_onTheWay : GoodIn wsX7_advance wsX7_onTheWay := goodIn_r _ [13, 14, 1, 24, 25, 26, 27, 28] (by decide +kernel) (by decide +kernel)
set_option maxRecDepth 20000 in
theorem gX7_advance_X7_onTheWay : GoodIn wsX7_advance (wsV RX7 39 RX7 yX7_onTheWay wsX7_onTheWay) := goodIn_app (goodIn_of _ (by decide +kernel)) ggX7_advance_X7_onTheWay
set_option maxRecDepth 20000 in
theorem ggX7_advance_X3_put : GoodIn wsX7_advance wsX3_put := goodIn_r _ [19, 20, 21, 22, 23, 29, 30, 31, 32] (by decide +kernel) (by decide +kernel)
set_option maxRecDepth 20000 in
theorem gX7_advance_X3_put : GoodIn wsX7_advance (wsV RX7 52 RX3 yX3_put wsX3_put) := goodIn_app (goodIn_of _ (by decide +kernel)) ggX7_advance_X3_put
theorem dX7_advance_0 : decode cX7_advance 0 = .ok (.aload_n 0, 1) := by decide +kernel
theorem dX7_advance_1 : decode cX7_advance 1 = .ok (.getfield 30, 3) := by decide +kernel
theorem dX7_advance_4 : decode cX7_advance 4 = .ok (.ifCond .gt 4, 3) := by decide +kernel
theorem dX7_advance_7 : decode cX7_advance 7 = .ok (.return_, 1) := by decide +kernel
theorem dX7_advance_8 : decode cX7_advance 8 = .ok (.aload_n 0, 1) := by decide +kernel
theorem dX7_advance_9 : decode cX7_advance 9 = .ok (.dup, 1) := by decide +kernel
theorem dX7_advance_10 : decode cX7_advance 10 = .ok (.getfield 30, 3) := by decide +kernel
theorem dX7_advance_13 : decode cX7_advance 13 = .ok (.iconst 1, 1) := by decide +kernel
theorem dX7_advance_14 : decode cX7_advance 14 = .ok (.isub, 1) := by decide +kernel
theorem dX7_advance_15 : decode cX7_advance 15 = .ok (.putfield 30, 3) := by decide +kernel
theorem dX7_advance_18 : decode cX7_advance 18 = .ok (.aload_n 0, 1) := by decide +kernel
theorem dX7_advance_19 : decode cX7_advance 19 = .ok (.getfield 10, 3) := by decide +kernel
theorem dX7_advance_22 : decode cX7_advance 22 = .ok (.aload_n 0, 1) := by decide +kernel
theorem dX7_advance_23 : decode cX7_advance 23 = .ok (.aload_n 0, 1) := by decide +kernel
theorem dX7_advance_24 : decode cX7_advance 24 = .ok (.getfield 16, 3) := by decide +kernel
theorem dX7_advance_27 : decode cX7_advance 27 = .ok (.getfield 36, 3) := by decide +kernel
theorem dX7_advance_30 : decode cX7_advance 30 = .ok (.aload_n 0, 1) := by decide +kernel
theorem dX7_advance_31 : decode cX7_advance 31 = .ok (.getfield 19, 3) := by decide +kernel
theorem dX7_advance_34 : decode cX7_advance 34 = .ok (.getfield 36, 3) := by decide +kernel
theorem dX7_advance_37 : decode cX7_advance 37 = .ok (.invokevirtual 39, 3) := by decide +kernel
theorem dX7_advance_40 : decode cX7_advance 40 = .ok (.aload_n 0, 1) := by decide +kernel
theorem dX7_advance_41 : decode cX7_advance 41 = .ok (.aload_n 0, 1) := by decide +kernel
theorem dX7_advance_42 : decode cX7_advance 42 = .ok (.getfield 16, 3) := by decide +kernel
theorem dX7_advance_45 : decode cX7_advance 45 = .ok (.getfield 43, 3) := by decide +kernel
theorem dX7_advance_48 : decode cX7_advance 48 = .ok (.aload_n 0, 1) := by decide +kernel
theorem dX7_advance_49 : decode cX7_advance 49 = .ok (.getfield 19, 3) := by decide +kernel
theorem dX7_advance_52 : decode cX7_advance 52 = .ok (.getfield 43, 3) := by decide +kernel
theorem dX7_advance_55 : decode cX7_advance 55 = .ok (.invokevirtual 39, 3) := by decide +kernel
theorem dX7_advance_58 : decode cX7_advance 58 = .ok (.aload_n 0, 1) := by decide +kernel
theorem dX7_advance_59 : decode cX7_advance 59 = .ok (.aload_n 0, 1) := by decide +kernel
theorem dX7_advance_60 : decode cX7_advance 60 = .ok (.getfield 16, 3) := by decide +kernel
theorem dX7_advance_63 : decode cX7_advance 63 = .ok (.getfield 46, 3) := by decide +kernel
theorem dX7_advance_66 : decode cX7_advance 66 = .ok (.aload_n 0, 1) := by decide +kernel
theorem dX7_advance_67 : decode cX7_advance 67 = .ok (.getfield 19, 3) := by decide +kernel
theorem dX7_advance_70 : decode cX7_advance 70 = .ok (.getfield 46, 3) := by decide +kernel
theorem dX7_advance_73 : decode cX7_advance 73 = .ok (.invokevirtual 39, 3) := by decide +kernel
theorem dX7_advance_76 : decode cX7_advance 76 = .ok (.aload_n 0, 1) := by decide +kernel
theorem dX7_advance_77 : decode cX7_advance 77 = .ok (.aload_n 0, 1) := by decide +kernel
theorem dX7_advance_78 : decode cX7_advance 78 = .ok (.getfield 16, 3) := by decide +kernel
theorem dX7_advance_81 : decode cX7_advance 81 = .ok (.getfield 49, 3) := by decide +kernel
theorem dX7_advance_84 : decode cX7_advance 84 = .ok (.aload_n 0, 1) := by decide +kernel
theorem dX7_advance_85 : decode cX7_advance 85 = .ok (.getfield 19, 3) := by decide +kernel
theorem dX7_advance_88 : decode cX7_advance 88 = .ok (.getfield 49, 3) := by decide +kernel
theorem dX7_advance_91 : decode cX7_advance 91 = .ok (.invokevirtual 39, 3) := by decide +kernel
theorem dX7_advance_94 : decode cX7_advance 94 = .ok (.invokevirtual 52, 3) := by decide +kernel
theorem dX7_advance_97 : decode cX7_advance 97 = .ok (.return_, 1) := by decide +kernel
theorem dX7_onTheWay_0 : decode cX7_onTheWay 0 = .ok (.aload_n 0, 1) := by decide +kernel
theorem dX7_onTheWay_1 : decode cX7_onTheWay 1 = .ok (.getfield 26, 3) := by decide +kernel
theorem dX7_onTheWay_4 : decode cX7_onTheWay 4 = .ok (.ifCond .gt 7, 3) := by decide +kernel
theorem dX7_onTheWay_7 : decode cX7_onTheWay 7 = .ok (.iload_n 2, 1) := by decide +kernel
theorem dX7_onTheWay_8 : decode cX7_onTheWay 8 = .ok (.goto 23, 3) := by decide +kernel
theorem dX7_onTheWay_11 : decode cX7_onTheWay 11 = .ok (.iload_n 1, 1) := by decide +kernel
theorem dX7_onTheWay_12 : decode cX7_onTheWay 12 = .ok (.iload_n 2, 1) := by decide +kernel
theorem dX7_onTheWay_13 : decode cX7_onTheWay 13 = .ok (.iload_n 1, 1) := by decide +kernel
theorem dX7_onTheWay_14 : decode cX7_onTheWay 14 = .ok (.isub, 1) := by decide +kernel
theorem dX7_onTheWay_15 : decode cX7_onTheWay 15 = .ok (.aload_n 0, 1) := by decide +kernel
theorem dX7_onTheWay_16 : decode cX7_onTheWay 16 = .ok (.getfield 26, 3) := by decide +kernel
theorem dX7_onTheWay_19 : decode cX7_onTheWay 19 = .ok (.aload_n 0, 1) := by decide +kernel
theorem dX7_onTheWay_20 : decode cX7_onTheWay 20 = .ok (.getfield 30, 3) := by decide +kernel
theorem dX7_onTheWay_23 : decode cX7_onTheWay 23 = .ok (.isub, 1) := by decide +kernel
theorem dX7_onTheWay_24 : decode cX7_onTheWay 24 = .ok (.imul, 1) := by decide +kernel
theorem dX7_onTheWay_25 : decode cX7_onTheWay 25 = .ok (.aload_n 0, 1) := by decide +kernel
theorem dX7_onTheWay_26 : decode cX7_onTheWay 26 = .ok (.getfield 26, 3) := by decide +kernel
theorem dX7_onTheWay_29 : decode cX7_onTheWay 29 = .ok (.idiv, 1) := by decide +kernel
theorem dX7_onTheWay_30 : decode cX7_onTheWay 30 = .ok (.iadd, 1) := by decide +kernel
theorem dX7_onTheWay_31 : decode cX7_onTheWay 31 = .ok (.ireturn, 1) := by decide +kernel
theorem dX8_init_0 : decode cX8_init 0 = .ok (.aload_n 0, 1) := by decide +kernel
theorem dX8_init_1 : decode cX8_init 1 = .ok (.invokespecial 3, 3) := by decide +kernel
theorem dX8_init_4 : decode cX8_init 4 = .ok (.aload_n 0, 1) := by decide +kernel
theorem dX8_init_5 : decode cX8_init 5 = .ok (.bipush 24, 2) := by decide +kernel
theorem dX8_init_7 : decode cX8_init 7 = .ok (.newarray .int, 2) := by decide +kernel
theorem dX8_init_9 : decode cX8_init 9 = .ok (.putfield 9, 3) := by decide +kernel
theorem dX8_init_12 : decode cX8_init 12 = .ok (.return_, 1) := by decide +kernel
theorem dX8_becomeLike_0 : decode cX8_becomeLike 0 = .ok (.aload_n 1, 1) := by decide +kernel
theorem dX8_becomeLike_1 : decode cX8_becomeLike 1 = .ok (.getfield 9, 3) := by decide +kernel
theorem dX8_becomeLike_4 : decode cX8_becomeLike 4 = .ok (.iconst 0, 1) := by decide +kernel
theorem dX8_becomeLike_5 : decode cX8_becomeLike 5 = .ok (.aload_n 0, 1) := by decide +kernel
theorem dX8_becomeLike_6 : decode cX8_becomeLike 6 = .ok (.getfield 9, 3) := by decide +kernel
theorem dX8_becomeLike_9 : decode cX8_becomeLike 9 = .ok (.iconst 0, 1) := by decide +kernel
theorem dX8_becomeLike_10 : decode cX8_becomeLike 10 = .ok (.bipush 24, 2) := by decide +kernel
theorem dX8_becomeLike_12 : decode cX8_becomeLike 12 = .ok (.invokestatic 15, 3) := by decide +kernel
theorem dX8_becomeLike_15 : decode cX8_becomeLike 15 = .ok (.aload_n 0, 1) := by decide +kernel
theorem dX8_becomeLike_16 : decode cX8_becomeLike 16 = .ok (.aload_n 1, 1) := by decide +kernel
theorem dX8_becomeLike_17 : decode cX8_becomeLike 17 = .ok (.getfield 21, 3) := by decide +kernel
theorem dX8_becomeLike_20 : decode cX8_becomeLike 20 = .ok (.putfield 21, 3) := by decide +kernel
theorem dX8_becomeLike_23 : decode cX8_becomeLike 23 = .ok (.aload_n 0, 1) := by decide +kernel
theorem dX8_becomeLike_24 : decode cX8_becomeLike 24 = .ok (.aload_n 1, 1) := by decide +kernel
theorem dX8_becomeLike_25 : decode cX8_becomeLike 25 = .ok (.getfield 25, 3) := by decide +kernel
theorem dX8_becomeLike_28 : decode cX8_becomeLike 28 = .ok (.putfield 25, 3) := by decide +kernel
theorem dX8_becomeLike_31 : decode cX8_becomeLike 31 = .ok (.return_, 1) := by decide +kernel
set_option maxRecDepth 20000 in
theorem ggX8_take_J9_floorMod_7cf53 : GoodIn wsX8_take wsJ9_floorMod_7cf53 := goodIn_r _ [7] (by decide +kernel) (by decide +kernel)
set_option maxRecDepth 20000 in
theorem gX8_take_J9_floorMod_7cf53 : GoodIn wsX8_take (va_wsS RX8 28 yJ9_floorMod_7cf53 wsJ9_floorMod_7cf53) := goodIn_app (goodIn_of _ (by decide +kernel)) ggX8_take_J9_floorMod_7cf53
theorem dX8_take_0 : decode cX8_take 0 = .ok (.iload_n 1, 1) := by decide +kernel
theorem dX8_take_1 : decode cX8_take 1 = .ok (.bipush 24, 2) := by decide +kernel
theorem dX8_take_3 : decode cX8_take 3 = .ok (.invokestatic 28, 3) := by decide +kernel
theorem dX8_take_6 : decode cX8_take 6 = .ok (.istore 4, 2) := by decide +kernel
theorem dX8_take_8 : decode cX8_take 8 = .ok (.getstatic 34, 3) := by decide +kernel
theorem dX8_take_11 : decode cX8_take 11 = .ok (.iload 4, 2) := by decide +kernel
theorem dX8_take_13 : decode cX8_take 13 = .ok (.iaload, 1) := by decide +kernel
theorem dX8_take_14 : decode cX8_take 14 = .ok (.istore 5, 2) := by decide +kernel
theorem dX8_take_16 : decode cX8_take 16 = .ok (.getstatic 34, 3) := by decide +kernel
theorem dX8_take_19 : decode cX8_take 19 = .ok (.iload 4, 2) := by decide +kernel
theorem dX8_take_21 : decode cX8_take 21 = .ok (.bipush 18, 2) := by decide +kernel
theorem dX8_take_23 : decode cX8_take 23 = .ok (.iadd, 1) := by decide +kernel
theorem dX8_take_24 : decode cX8_take 24 = .ok (.bipush 24, 2) := by decide +kernel
theorem dX8_take_26 : decode cX8_take 26 = .ok (.irem, 1) := by decide +kernel
theorem dX8_take_27 : decode cX8_take 27 = .ok (.iaload, 1) := by decide +kernel
theorem dX8_take_28 : decode cX8_take 28 = .ok (.istore 6, 2) := by decide +kernel
theorem dX8_take_30 : decode cX8_take 30 = .ok (.iload_n 2, 1) := by decide +kernel
theorem dX8_take_31 : decode cX8_take 31 = .ok (.iload 5, 2) := by decide +kernel
theorem dX8_take_33 : decode cX8_take 33 = .ok (.imul, 1) := by decide +kernel
theorem dX8_take_34 : decode cX8_take 34 = .ok (.iload_n 3, 1) := by decide +kernel
theorem dX8_take_35 : decode cX8_take 35 = .ok (.iload 6, 2) := by decide +kernel
theorem dX8_take_37 : decode cX8_take 37 = .ok (.imul, 1) := by decide +kernel
theorem dX8_take_38 : decode cX8_take 38 = .ok (.isub, 1) := by decide +kernel
theorem dX8_take_39 : decode cX8_take 39 = .ok (.sipush 4096, 3) := by decide +kernel
theorem dX8_take_42 : decode cX8_take 42 = .ok (.idiv, 1) := by decide +kernel
theorem dX8_take_43 : decode cX8_take 43 = .ok (.istore 7, 2) := by decide +kernel
theorem dX8_take_45 : decode cX8_take 45 = .ok (.iload 7, 2) := by decide +kernel
theorem dX8_take_47 : decode cX8_take 47 = .ok (.aload_n 0, 1) := by decide +kernel
theorem dX8_take_48 : decode cX8_take 48 = .ok (.getfield 9, 3) := by decide +kernel
theorem dX8_take_51 : decode cX8_take 51 = .ok (.iload 4, 2) := by decide +kernel
theorem dX8_take_53 : decode cX8_take 53 = .ok (.iaload, 1) := by decide +kernel
theorem dX8_take_54 : decode cX8_take 54 = .ok (.isub, 1) := by decide +kernel
theorem dX8_take_55 : decode cX8_take 55 = .ok (.i2l, 1) := by decide +kernel
theorem dX8_take_56 : decode cX8_take 56 = .ok (.lstore 8, 2) := by decide +kernel
theorem dX8_take_58 : decode cX8_take 58 = .ok (.aload_n 0, 1) := by decide +kernel
theorem dX8_take_59 : decode cX8_take 59 = .ok (.getfield 9, 3) := by decide +kernel
theorem dX8_take_62 : decode cX8_take 62 = .ok (.iload 4, 2) := by decide +kernel
theorem dX8_take_64 : decode cX8_take 64 = .ok (.iload 7, 2) := by decide +kernel
theorem dX8_take_66 : decode cX8_take 66 = .ok (.iastore, 1) := by decide +kernel
theorem dX8_take_67 : decode cX8_take 67 = .ok (.aload_n 0, 1) := by decide +kernel
theorem dX8_take_68 : decode cX8_take 68 = .ok (.dup, 1) := by decide +kernel
theorem dX8_take_69 : decode cX8_take 69 = .ok (.getfield 21, 3) := by decide +kernel
theorem dX8_take_72 : decode cX8_take 72 = .ok (.lload 8, 2) := by decide +kernel
theorem dX8_take_74 : decode cX8_take 74 = .ok (.iload 5, 2) := by decide +kernel
theorem dX8_take_76 : decode cX8_take 76 = .ok (.i2l, 1) := by decide +kernel
theorem dX8_take_77 : decode cX8_take 77 = .ok (.lmul, 1) := by decide +kernel
theorem dX8_take_78 : decode cX8_take 78 = .ok (.ladd, 1) := by decide +kernel
theorem dX8_take_79 : decode cX8_take 79 = .ok (.putfield 21, 3) := by decide +kernel
theorem dX8_take_82 : decode cX8_take 82 = .ok (.aload_n 0, 1) := by decide +kernel
theorem dX8_take_83 : decode cX8_take 83 = .ok (.dup, 1) := by decide +kernel
theorem dX8_take_84 : decode cX8_take 84 = .ok (.getfield 25, 3) := by decide +kernel
theorem dX8_take_87 : decode cX8_take 87 = .ok (.lload 8, 2) := by decide +kernel
theorem dX8_take_89 : decode cX8_take 89 = .ok (.iload 6, 2) := by decide +kernel
theorem dX8_take_91 : decode cX8_take 91 = .ok (.i2l, 1) := by decide +kernel
theorem dX8_take_92 : decode cX8_take 92 = .ok (.lmul, 1) := by decide +kernel
theorem dX8_take_93 : decode cX8_take 93 = .ok (.ladd, 1) := by decide +kernel
theorem dX8_take_94 : decode cX8_take 94 = .ok (.putfield 25, 3) := by decide +kernel
theorem dX8_take_97 : decode cX8_take 97 = .ok (.return_, 1) := by decide +kernel
theorem dX8_estimateA_0 : decode cX8_estimateA 0 = .ok (.aload_n 0, 1) := by decide +kernel
theorem dX8_estimateA_1 : decode cX8_estimateA 1 = .ok (.getfield 21, 3) := by decide +kernel
theorem dX8_estimateA_4 : decode cX8_estimateA 4 = .ok (.ldc2_w 37, 3) := by decide +kernel
theorem dX8_estimateA_7 : decode cX8_estimateA 7 = .ok (.ldiv, 1) := by decide +kernel
theorem dX8_estimateA_8 : decode cX8_estimateA 8 = .ok (.l2i, 1) := by decide +kernel
theorem dX8_estimateA_9 : decode cX8_estimateA 9 = .ok (.ireturn, 1) := by decide +kernel
theorem dX8_estimateB_0 : decode cX8_estimateB 0 = .ok (.aload_n 0, 1) := by decide +kernel
theorem dX8_estimateB_1 : decode cX8_estimateB 1 = .ok (.getfield 25, 3) := by decide +kernel
theorem dX8_estimateB_4 : decode cX8_estimateB 4 = .ok (.lneg, 1) := by decide +kernel
theorem dX8_estimateB_5 : decode cX8_estimateB 5 = .ok (.ldc2_w 37, 3) := by decide +kernel
theorem dX8_estimateB_8 : decode cX8_estimateB 8 = .ok (.ldiv, 1) := by decide +kernel
theorem dX8_estimateB_9 : decode cX8_estimateB 9 = .ok (.l2i, 1) := by decide +kernel
theorem dX8_estimateB_10 : decode cX8_estimateB 10 = .ok (.ireturn, 1) := by decide +kernel
theorem dX9_init_0 : decode cX9_init 0 = .ok (.aload_n 0, 1) := by decide +kernel
theorem dX9_init_1 : decode cX9_init 1 = .ok (.invokespecial 3, 3) := by decide +kernel
theorem dX9_init_4 : decode cX9_init 4 = .ok (.aload_n 0, 1) := by decide +kernel
theorem dX9_init_5 : decode cX9_init 5 = .ok (.iconst 0, 1) := by decide +kernel
theorem dX9_init_6 : decode cX9_init 6 = .ok (.putfield 9, 3) := by decide +kernel
theorem dX9_init_9 : decode cX9_init 9 = .ok (.aload_n 0, 1) := by decide +kernel
theorem dX9_init_10 : decode cX9_init 10 = .ok (.iload_n 1, 1) := by decide +kernel
theorem dX9_init_11 : decode cX9_init 11 = .ok (.putfield 15, 3) := by decide +kernel
theorem dX9_init_14 : decode cX9_init 14 = .ok (.return_, 1) := by decide +kernel
theorem dX9_becomeLike_0 : decode cX9_becomeLike 0 = .ok (.aload_n 0, 1) := by decide +kernel
theorem dX9_becomeLike_1 : decode cX9_becomeLike 1 = .ok (.aload_n 1, 1) := by decide +kernel
theorem dX9_becomeLike_2 : decode cX9_becomeLike 2 = .ok (.getfield 15, 3) := by decide +kernel
theorem dX9_becomeLike_5 : decode cX9_becomeLike 5 = .ok (.putfield 15, 3) := by decide +kernel
theorem dX9_becomeLike_8 : decode cX9_becomeLike 8 = .ok (.aload_n 0, 1) := by decide +kernel
theorem dX9_becomeLike_9 : decode cX9_becomeLike 9 = .ok (.aload_n 1, 1) := by decide +kernel
theorem dX9_becomeLike_10 : decode cX9_becomeLike 10 = .ok (.getfield 9, 3) := by decide +kernel
theorem dX9_becomeLike_13 : decode cX9_becomeLike 13 = .ok (.putfield 9, 3) := by decide +kernel
theorem dX9_becomeLike_16 : decode cX9_becomeLike 16 = .ok (.aload_n 0, 1) := by decide +kernel
theorem dX9_becomeLike_17 : decode cX9_becomeLike 17 = .ok (.aload_n 1, 1) := by decide +kernel
theorem dX9_becomeLike_18 : decode cX9_becomeLike 18 = .ok (.getfield 18, 3) := by decide +kernel
theorem dX9_becomeLike_21 : decode cX9_becomeLike 21 = .ok (.putfield 18, 3) := by decide +kernel
theorem dX9_becomeLike_24 : decode cX9_becomeLike 24 = .ok (.aload_n 0, 1) := by decide +kernel
theorem dX9_becomeLike_25 : decode cX9_becomeLike 25 = .ok (.aload_n 1, 1) := by decide +kernel
theorem dX9_becomeLike_26 : decode cX9_becomeLike 26 = .ok (.getfield 21, 3) := by decide +kernel
theorem dX9_becomeLike_29 : decode cX9_becomeLike 29 = .ok (.putfield 21, 3) := by decide +kernel
theorem dX9_becomeLike_32 : decode cX9_becomeLike 32 = .ok (.return_, 1) := by decide +kernel
theorem dX9_fits_0 : decode cX9_fits 0 = .ok (.aload_n 0, 1) := by decide +kernel
theorem dX9_fits_1 : decode cX9_fits 1 = .ok (.getfield 9, 3) := by decide +kernel
theorem dX9_fits_4 : decode cX9_fits 4 = .ok (.iconst 2, 1) := by decide +kernel
theorem dX9_fits_5 : decode cX9_fits 5 = .ok (.if_icmp .eq 25, 3) := by decide +kernel
theorem dX9_fits_8 : decode cX9_fits 8 = .ok (.aload_n 0, 1) := by decide +kernel
theorem dX9_fits_9 : decode cX9_fits 9 = .ok (.getfield 9, 3) := by decide +kernel
theorem dX9_fits_12 : decode cX9_fits 12 = .ok (.ifCond .ne 12, 3) := by decide +kernel
theorem dX9_fits_15 : decode cX9_fits 15 = .ok (.lload_n 1, 1) := by decide +kernel
theorem dX9_fits_16 : decode cX9_fits 16 = .ok (.lconst 0, 1) := by decide +kernel
theorem dX9_fits_17 : decode cX9_fits 17 = .ok (.lcmp, 1) := by decide +kernel
theorem dX9_fits_18 : decode cX9_fits 18 = .ok (.ifCond .le 16, 3) := by decide +kernel
theorem dX9_fits_21 : decode cX9_fits 21 = .ok (.goto 9, 3) := by decide +kernel
theorem dX9_fits_24 : decode cX9_fits 24 = .ok (.lload_n 1, 1) := by decide +kernel
theorem dX9_fits_25 : decode cX9_fits 25 = .ok (.lconst 0, 1) := by decide +kernel
theorem dX9_fits_26 : decode cX9_fits 26 = .ok (.lcmp, 1) := by decide +kernel
theorem dX9_fits_27 : decode cX9_fits 27 = .ok (.ifCond .ge 7, 3) := by decide +kernel
theorem dX9_fits_30 : decode cX9_fits 30 = .ok (.iconst 1, 1) := by decide +kernel
theorem dX9_fits_31 : decode cX9_fits 31 = .ok (.goto 4, 3) := by decide +kernel
theorem dX9_fits_34 : decode cX9_fits 34 = .ok (.iconst 0, 1) := by decide +kernel
theorem dX9_fits_35 : decode cX9_fits 35 = .ok (.ireturn, 1) := by decide +kernel
set_option maxRecDepth 20000 in
theorem ggX10_init_X6_init : GoodIn wsX10_init wsX6_init := goodIn_r _ [30, 31, 2, 3, 32, 33, 34, 35, 36, 37, 38, 39, 40, 41, 42, 43, 44, 45, 46, 47, 48, 49, 50, 51, 52, 53, 11, 12, 54, 55, 16, 17, 56, 57, 58, 59, 60, 61, 62, 63, 64, 65, 66, 67, 68, 69, 70, 71, 72, 73, 74, 75, 76, 77, 78, 79, 80, 81, 82, 83, 84, 85, 86, 87, 88, 89, 90, 91, 92, 93, 94, 95, 96, 97, 98, 99, 100, 101, 102, 103, 129, 130, 131, 132, 133, 134, 135, 136, 137, 138, 139, 140, 141, 142, 143, 144, 145, 146, 175, 176, 177, 178, 179, 180, 181, 182, 183, 184, 185, 186, 187, 188, 156, 157, 158, 159, 160, 161, 162, 163, 189, 190, 191, 192, 193, 194, 195] (by decide +kernel) (by decide +kernel)
set_option maxRecDepth 20000 in
theorem gX10_init_X6_init : GoodIn wsX10_init (wsX6_init) := ggX10_init_X6_init
set_option maxRecDepth 20000 in
theorem ggX10_init_X3_init : GoodIn wsX10_init wsX3_init := goodIn_r _ [83, 84, 2, 3] (by decide +kernel) (by decide +kernel)
set_option maxRecDepth 20000 in
theorem gX10_init_X3_init_n25 : GoodIn wsX10_init (wsX3_init) := ggX10_init_X3_init
set_option maxRecDepth 20000 in
theorem ggX10_init_X0_init : GoodIn wsX10_init wsX0_init := goodIn_r _ [90, 91, 2, 3, 92, 160, 161, 162, 163] (by decide +kernel) (by decide +kernel)
set_option maxRecDepth 20000 in
theorem gX10_init_X0_init_n35 : GoodIn wsX10_init (wsX0_init) := ggX10_init_X0_init
set_option maxRecDepth 20000 in
theorem ggX10_init_J4_init_da8c8 : GoodIn wsX10_init wsJ4_init_da8c8 := goodIn_r _ [106, 107, 108, 109, 110, 111, 2, 3, 112, 113, 114, 115, 116, 117, 118, 119, 120, 121, 122, 123, 164, 165, 166, 167] (by decide +kernel) (by decide +kernel)
set_option maxRecDepth 20000 in
theorem gX10_init_J4_init_da8c8 : GoodIn wsX10_init (wsJ4_init_da8c8) := ggX10_init_J4_init_da8c8
set_option maxRecDepth 20000 in
theorem ggX10_init_X5_init : GoodIn wsX10_init wsX5_init := goodIn_r _ [125, 126, 2, 3, 34, 127, 128, 168, 169, 170, 171, 172, 173, 174] (by decide +kernel) (by decide +kernel)
set_option maxRecDepth 20000 in
theorem gX10_init_X5_init_n49 : GoodIn wsX10_init (wsX5_init) := ggX10_init_X5_init
theorem dX10_init_0 : decode cX10_init 0 = .ok (.aload_n 0, 1) := by decide +kernel
theorem dX10_init_1 : decode cX10_init 1 = .ok (.invokespecial 1, 3) := by decide +kernel
theorem dX10_init_4 : decode cX10_init 4 = .ok (.aload_n 0, 1) := by decide +kernel
theorem dX10_init_5 : decode cX10_init 5 = .ok (.new 7, 3) := by decide +kernel
theorem dX10_init_8 : decode cX10_init 8 = .ok (.dup, 1) := by decide +kernel
theorem dX10_init_9 : decode cX10_init 9 = .ok (.invokespecial 9, 3) := by decide +kernel
theorem dX10_init_12 : decode cX10_init 12 = .ok (.putfield 10, 3) := by decide +kernel
theorem dX10_init_15 : decode cX10_init 15 = .ok (.aload_n 0, 1) := by decide +kernel
theorem dX10_init_16 : decode cX10_init 16 = .ok (.new 7, 3) := by decide +kernel
theorem dX10_init_19 : decode cX10_init 19 = .ok (.dup, 1) := by decide +kernel
theorem dX10_init_20 : decode cX10_init 20 = .ok (.invokespecial 9, 3) := by decide +kernel
theorem dX10_init_23 : decode cX10_init 23 = .ok (.putfield 16, 3) := by decide +kernel
theorem dX10_init_26 : decode cX10_init 26 = .ok (.aload_n 0, 1) := by decide +kernel
theorem dX10_init_27 : decode cX10_init 27 = .ok (.iconst 2, 1) := by decide +kernel
theorem dX10_init_28 : decode cX10_init 28 = .ok (.anewarray 7, 3) := by decide +kernel
theorem dX10_init_31 : decode cX10_init 31 = .ok (.putfield 19, 3) := by decide +kernel
theorem dX10_init_34 : decode cX10_init 34 = .ok (.aload_n 0, 1) := by decide +kernel
theorem dX10_init_35 : decode cX10_init 35 = .ok (.new 23, 3) := by decide +kernel
theorem dX10_init_38 : decode cX10_init 38 = .ok (.dup, 1) := by decide +kernel
theorem dX10_init_39 : decode cX10_init 39 = .ok (.invokespecial 25, 3) := by decide +kernel
theorem dX10_init_42 : decode cX10_init 42 = .ok (.putfield 26, 3) := by decide +kernel
theorem dX10_init_45 : decode cX10_init 45 = .ok (.aload_n 0, 1) := by decide +kernel
theorem dX10_init_46 : decode cX10_init 46 = .ok (.new 23, 3) := by decide +kernel
theorem dX10_init_49 : decode cX10_init 49 = .ok (.dup, 1) := by decide +kernel
theorem dX10_init_50 : decode cX10_init 50 = .ok (.invokespecial 25, 3) := by decide +kernel
theorem dX10_init_53 : decode cX10_init 53 = .ok (.putfield 30, 3) := by decide +kernel
theorem dX10_init_56 : decode cX10_init 56 = .ok (.aload_n 0, 1) := by decide +kernel
theorem dX10_init_57 : decode cX10_init 57 = .ok (.new 33, 3) := by decide +kernel
theorem dX10_init_60 : decode cX10_init 60 = .ok (.dup, 1) := by decide +kernel
theorem dX10_init_61 : decode cX10_init 61 = .ok (.invokespecial 35, 3) := by decide +kernel
theorem dX10_init_64 : decode cX10_init 64 = .ok (.putfield 36, 3) := by decide +kernel
theorem dX10_init_67 : decode cX10_init 67 = .ok (.aload_n 0, 1) := by decide +kernel
theorem dX10_init_68 : decode cX10_init 68 = .ok (.new 40, 3) := by decide +kernel
theorem dX10_init_71 : decode cX10_init 71 = .ok (.dup, 1) := by decide +kernel
theorem dX10_init_72 : decode cX10_init 72 = .ok (.invokespecial 42, 3) := by decide +kernel
theorem dX10_init_75 : decode cX10_init 75 = .ok (.putfield 43, 3) := by decide +kernel
theorem dX10_init_78 : decode cX10_init 78 = .ok (.aload_n 0, 1) := by decide +kernel
theorem dX10_init_79 : decode cX10_init 79 = .ok (.new 47, 3) := by decide +kernel
theorem dX10_init_82 : decode cX10_init 82 = .ok (.dup, 1) := by decide +kernel
theorem dX10_init_83 : decode cX10_init 83 = .ok (.invokespecial 49, 3) := by decide +kernel
theorem dX10_init_86 : decode cX10_init 86 = .ok (.putfield 50, 3) := by decide +kernel
theorem dX10_init_89 : decode cX10_init 89 = .ok (.aload_n 0, 1) := by decide +kernel
theorem dX10_init_90 : decode cX10_init 90 = .ok (.new 40, 3) := by decide +kernel
theorem dX10_init_93 : decode cX10_init 93 = .ok (.dup, 1) := by decide +kernel
theorem dX10_init_94 : decode cX10_init 94 = .ok (.invokespecial 42, 3) := by decide +kernel
theorem dX10_init_97 : decode cX10_init 97 = .ok (.putfield 54, 3) := by decide +kernel
theorem dX10_init_100 : decode cX10_init 100 = .ok (.return_, 1) := by decide +kernel
set_option maxRecDepth 20000 in
theorem ggX10_corner_X10_outside : GoodIn wsX10_corner wsX10_outside := goodIn_r _ [7] (by decide +kernel) (by decide +kernel)
set_option maxRecDepth 20000 in
theorem gX10_corner_X10_outside : GoodIn wsX10_corner (va_wsS RX10 57 yX10_outside wsX10_outside) := goodIn_app (goodIn_of _ (by decide +kernel)) ggX10_corner_X10_outside
set_option maxRecDepth 20000 in
theorem ggX10_corner_X10_beyondLimit : GoodIn wsX10_corner wsX10_beyondLimit := goodIn_r _ [10, 4, 5, 6, 7] (by decide +kernel) (by decide +kernel)
set_option maxRecDepth 20000 in
theorem gX10_corner_X10_beyondLimit : GoodIn wsX10_corner (va_wsS RX10 61 yX10_beyondLimit wsX10_beyondLimit) := goodIn_app (goodIn_of _ (by decide +kernel)) ggX10_corner_X10_beyondLimit
set_option maxRecDepth 20000 in
theorem ggX10_corner_X4_append : GoodIn wsX10_corner wsX4_append := goodIn_r _ [15, 16, 17, 18, 19, 20, 21, 22, 14, 23, 24, 25, 26, 27, 28, 29, 30, 31, 32, 33, 34, 35, 36, 37, 38, 39, 67, 68, 69, 70] (by decide +kernel) (by decide +kernel)
set_option maxRecDepth 20000 in
theorem gX10_corner_X4_append : GoodIn wsX10_corner (wsV RX10 75 RX4 yX4_append wsX4_append) := goodIn_app (goodIn_of _ (by decide +kernel)) ggX10_corner_X4_append
theorem dX10_corner_0 : decode cX10_corner 0 = .ok (.iload_n 1, 1) := by decide +kernel
theorem dX10_corner_1 : decode cX10_corner 1 = .ok (.iconst 0, 1) := by decide +kernel
theorem dX10_corner_2 : decode cX10_corner 2 = .ok (.iconst 4, 1) := by decide +kernel
theorem dX10_corner_3 : decode cX10_corner 3 = .ok (.invokestatic 57, 3) := by decide +kernel
theorem dX10_corner_6 : decode cX10_corner 6 = .ok (.ifCond .eq 5, 3) := by decide +kernel
theorem dX10_corner_9 : decode cX10_corner 9 = .ok (.iconst (-1), 1) := by decide +kernel
theorem dX10_corner_10 : decode cX10_corner 10 = .ok (.ireturn, 1) := by decide +kernel
theorem dX10_corner_11 : decode cX10_corner 11 = .ok (.iload_n 2, 1) := by decide +kernel
theorem dX10_corner_12 : decode cX10_corner 12 = .ok (.invokestatic 61, 3) := by decide +kernel
theorem dX10_corner_15 : decode cX10_corner 15 = .ok (.ifCond .ne 10, 3) := by decide +kernel
theorem dX10_corner_18 : decode cX10_corner 18 = .ok (.iload_n 3, 1) := by decide +kernel
theorem dX10_corner_19 : decode cX10_corner 19 = .ok (.invokestatic 61, 3) := by decide +kernel
theorem dX10_corner_22 : decode cX10_corner 22 = .ok (.ifCond .eq 6, 3) := by decide +kernel
theorem dX10_corner_25 : decode cX10_corner 25 = .ok (.bipush (-2), 2) := by decide +kernel
theorem dX10_corner_27 : decode cX10_corner 27 = .ok (.ireturn, 1) := by decide +kernel
theorem dX10_corner_28 : decode cX10_corner 28 = .ok (.aload_n 0, 1) := by decide +kernel
theorem dX10_corner_29 : decode cX10_corner 29 = .ok (.getfield 10, 3) := by decide +kernel
theorem dX10_corner_32 : decode cX10_corner 32 = .ok (.getfield 65, 3) := by decide +kernel
theorem dX10_corner_35 : decode cX10_corner 35 = .ok (.iload_n 1, 1) := by decide +kernel
theorem dX10_corner_36 : decode cX10_corner 36 = .ok (.aaload, 1) := by decide +kernel
theorem dX10_corner_37 : decode cX10_corner 37 = .ok (.astore 4, 2) := by decide +kernel
theorem dX10_corner_39 : decode cX10_corner 39 = .ok (.aload 4, 2) := by decide +kernel
theorem dX10_corner_41 : decode cX10_corner 41 = .ok (.getfield 69, 3) := by decide +kernel
theorem dX10_corner_44 : decode cX10_corner 44 = .ok (.bipush 8, 2) := by decide +kernel
theorem dX10_corner_46 : decode cX10_corner 46 = .ok (.if_icmp .lt 6, 3) := by decide +kernel
theorem dX10_corner_49 : decode cX10_corner 49 = .ok (.bipush (-4), 2) := by decide +kernel
theorem dX10_corner_51 : decode cX10_corner 51 = .ok (.ireturn, 1) := by decide +kernel
theorem dX10_corner_52 : decode cX10_corner 52 = .ok (.aload 4, 2) := by decide +kernel
theorem dX10_corner_54 : decode cX10_corner 54 = .ok (.iload_n 2, 1) := by decide +kernel
theorem dX10_corner_55 : decode cX10_corner 55 = .ok (.iload_n 3, 1) := by decide +kernel
theorem dX10_corner_56 : decode cX10_corner 56 = .ok (.invokevirtual 75, 3) := by decide +kernel
theorem dX10_corner_59 : decode cX10_corner 59 = .ok (.aload 4, 2) := by decide +kernel
theorem dX10_corner_61 : decode cX10_corner 61 = .ok (.getfield 69, 3) := by decide +kernel
theorem dX10_corner_64 : decode cX10_corner 64 = .ok (.ireturn, 1) := by decide +kernel
set_option maxRecDepth 20000 in
theorem ggX10_clear_X10_outside : GoodIn wsX10_clear wsX10_outside := goodIn_r _ [7] (by decide +kernel) (by decide +kernel)
set_option maxRecDepth 20000 in
theorem gX10_clear_X10_outside : GoodIn wsX10_clear (va_wsS RX10 57 yX10_outside wsX10_outside) := goodIn_app (goodIn_of _ (by decide +kernel)) ggX10_clear_X10_outside
set_option maxRecDepth 20000 in
theorem ggX10_clear_X4_empty : GoodIn wsX10_clear wsX4_empty := goodIn_r _ [12, 13, 14, 42, 43, 44, 45] (by decide +kernel) (by decide +kernel)
set_option maxRecDepth 20000 in
theorem gX10_clear_X4_empty : GoodIn wsX10_clear (wsV RX10 79 RX4 yX4_empty wsX4_empty) := goodIn_app (goodIn_of _ (by decide +kernel)) ggX10_clear_X4_empty
theorem dX10_clear_0 : decode cX10_clear 0 = .ok (.iload_n 1, 1) := by decide +kernel
theorem dX10_clear_1 : decode cX10_clear 1 = .ok (.iconst 0, 1) := by decide +kernel
theorem dX10_clear_2 : decode cX10_clear 2 = .ok (.iconst 4, 1) := by decide +kernel
theorem dX10_clear_3 : decode cX10_clear 3 = .ok (.invokestatic 57, 3) := by decide +kernel
theorem dX10_clear_6 : decode cX10_clear 6 = .ok (.ifCond .eq 5, 3) := by decide +kernel
theorem dX10_clear_9 : decode cX10_clear 9 = .ok (.iconst (-1), 1) := by decide +kernel
theorem dX10_clear_10 : decode cX10_clear 10 = .ok (.ireturn, 1) := by decide +kernel
theorem dX10_clear_11 : decode cX10_clear 11 = .ok (.aload_n 0, 1) := by decide +kernel
theorem dX10_clear_12 : decode cX10_clear 12 = .ok (.getfield 10, 3) := by decide +kernel
theorem dX10_clear_15 : decode cX10_clear 15 = .ok (.getfield 65, 3) := by decide +kernel
theorem dX10_clear_18 : decode cX10_clear 18 = .ok (.iload_n 1, 1) := by decide +kernel
theorem dX10_clear_19 : decode cX10_clear 19 = .ok (.aaload, 1) := by decide +kernel
theorem dX10_clear_20 : decode cX10_clear 20 = .ok (.getfield 69, 3) := by decide +kernel
theorem dX10_clear_23 : decode cX10_clear 23 = .ok (.istore_n 2, 1) := by decide +kernel
theorem dX10_clear_24 : decode cX10_clear 24 = .ok (.aload_n 0, 1) := by decide +kernel
theorem dX10_clear_25 : decode cX10_clear 25 = .ok (.getfield 10, 3) := by decide +kernel
theorem dX10_clear_28 : decode cX10_clear 28 = .ok (.getfield 65, 3) := by decide +kernel
theorem dX10_clear_31 : decode cX10_clear 31 = .ok (.iload_n 1, 1) := by decide +kernel
theorem dX10_clear_32 : decode cX10_clear 32 = .ok (.aaload, 1) := by decide +kernel
theorem dX10_clear_33 : decode cX10_clear 33 = .ok (.invokevirtual 79, 3) := by decide +kernel
theorem dX10_clear_36 : decode cX10_clear 36 = .ok (.iload_n 2, 1) := by decide +kernel
theorem dX10_clear_37 : decode cX10_clear 37 = .ok (.ireturn, 1) := by decide +kernel
set_option maxRecDepth 20000 in
theorem ggX10_at_X10_outside : GoodIn wsX10_at wsX10_outside := goodIn_r _ [10] (by decide +kernel) (by decide +kernel)
set_option maxRecDepth 20000 in
theorem gX10_at_X10_outside : GoodIn wsX10_at (va_wsS RX10 57 yX10_outside wsX10_outside) := goodIn_app (goodIn_of _ (by decide +kernel)) ggX10_at_X10_outside
theorem dX10_at_0 : decode cX10_at 0 = .ok (.iload_n 1, 1) := by decide +kernel
theorem dX10_at_1 : decode cX10_at 1 = .ok (.iconst 0, 1) := by decide +kernel
theorem dX10_at_2 : decode cX10_at 2 = .ok (.iconst 4, 1) := by decide +kernel
theorem dX10_at_3 : decode cX10_at 3 = .ok (.invokestatic 57, 3) := by decide +kernel
theorem dX10_at_6 : decode cX10_at 6 = .ok (.ifCond .eq 5, 3) := by decide +kernel
theorem dX10_at_9 : decode cX10_at 9 = .ok (.iconst (-1), 1) := by decide +kernel
theorem dX10_at_10 : decode cX10_at 10 = .ok (.ireturn, 1) := by decide +kernel
theorem dX10_at_11 : decode cX10_at 11 = .ok (.aload_n 0, 1) := by decide +kernel
theorem dX10_at_12 : decode cX10_at 12 = .ok (.getfield 10, 3) := by decide +kernel
theorem dX10_at_15 : decode cX10_at 15 = .ok (.getfield 65, 3) := by decide +kernel
theorem dX10_at_18 : decode cX10_at 18 = .ok (.iload_n 1, 1) := by decide +kernel
theorem dX10_at_19 : decode cX10_at 19 = .ok (.aaload, 1) := by decide +kernel
theorem dX10_at_20 : decode cX10_at 20 = .ok (.astore 4, 2) := by decide +kernel
theorem dX10_at_22 : decode cX10_at 22 = .ok (.iload_n 2, 1) := by decide +kernel
theorem dX10_at_23 : decode cX10_at 23 = .ok (.iconst 0, 1) := by decide +kernel
theorem dX10_at_24 : decode cX10_at 24 = .ok (.aload 4, 2) := by decide +kernel
theorem dX10_at_26 : decode cX10_at 26 = .ok (.getfield 69, 3) := by decide +kernel
theorem dX10_at_29 : decode cX10_at 29 = .ok (.iconst 1, 1) := by decide +kernel
theorem dX10_at_30 : decode cX10_at 30 = .ok (.isub, 1) := by decide +kernel
theorem dX10_at_31 : decode cX10_at 31 = .ok (.invokestatic 57, 3) := by decide +kernel
theorem dX10_at_34 : decode cX10_at 34 = .ok (.ifCond .eq 5, 3) := by decide +kernel
theorem dX10_at_37 : decode cX10_at 37 = .ok (.iconst (-1), 1) := by decide +kernel
theorem dX10_at_38 : decode cX10_at 38 = .ok (.ireturn, 1) := by decide +kernel
theorem dX10_at_39 : decode cX10_at 39 = .ok (.iload_n 3, 1) := by decide +kernel
theorem dX10_at_40 : decode cX10_at 40 = .ok (.iconst 0, 1) := by decide +kernel
theorem dX10_at_41 : decode cX10_at 41 = .ok (.iconst 1, 1) := by decide +kernel
theorem dX10_at_42 : decode cX10_at 42 = .ok (.invokestatic 57, 3) := by decide +kernel
theorem dX10_at_45 : decode cX10_at 45 = .ok (.ifCond .eq 6, 3) := by decide +kernel
theorem dX10_at_48 : decode cX10_at 48 = .ok (.bipush (-2), 2) := by decide +kernel
theorem dX10_at_50 : decode cX10_at 50 = .ok (.ireturn, 1) := by decide +kernel
theorem dX10_at_51 : decode cX10_at 51 = .ok (.ldc 82, 2) := by decide +kernel
theorem dX10_at_53 : decode cX10_at 53 = .ok (.iload_n 3, 1) := by decide +kernel
theorem dX10_at_54 : decode cX10_at 54 = .ok (.ifCond .ne 13, 3) := by decide +kernel
theorem dX10_at_57 : decode cX10_at 57 = .ok (.aload 4, 2) := by decide +kernel
theorem dX10_at_59 : decode cX10_at 59 = .ok (.getfield 83, 3) := by decide +kernel
theorem dX10_at_62 : decode cX10_at 62 = .ok (.iload_n 2, 1) := by decide +kernel
theorem dX10_at_63 : decode cX10_at 63 = .ok (.iaload, 1) := by decide +kernel
theorem dX10_at_64 : decode cX10_at 64 = .ok (.goto 10, 3) := by decide +kernel
theorem dX10_at_67 : decode cX10_at 67 = .ok (.aload 4, 2) := by decide +kernel
theorem dX10_at_69 : decode cX10_at 69 = .ok (.getfield 87, 3) := by decide +kernel
theorem dX10_at_72 : decode cX10_at 72 = .ok (.iload_n 2, 1) := by decide +kernel
theorem dX10_at_73 : decode cX10_at 73 = .ok (.iaload, 1) := by decide +kernel
theorem dX10_at_74 : decode cX10_at 74 = .ok (.iadd, 1) := by decide +kernel
theorem dX10_at_75 : decode cX10_at 75 = .ok (.ireturn, 1) := by decide +kernel
set_option maxRecDepth 20000 in
theorem ggX10_sound_X10_outside : GoodIn wsX10_sound wsX10_outside := goodIn_r _ [7] (by decide +kernel) (by decide +kernel)
set_option maxRecDepth 20000 in
theorem gX10_sound_X10_outside : GoodIn wsX10_sound (va_wsS RX10 57 yX10_outside wsX10_outside) := goodIn_app (goodIn_of _ (by decide +kernel)) ggX10_sound_X10_outside
theorem dX10_sound_0 : decode cX10_sound 0 = .ok (.iload_n 1, 1) := by decide +kernel
theorem dX10_sound_1 : decode cX10_sound 1 = .ok (.iconst 0, 1) := by decide +kernel
theorem dX10_sound_2 : decode cX10_sound 2 = .ok (.iconst 4, 1) := by decide +kernel
theorem dX10_sound_3 : decode cX10_sound 3 = .ok (.invokestatic 57, 3) := by decide +kernel
theorem dX10_sound_6 : decode cX10_sound 6 = .ok (.ifCond .eq 5, 3) := by decide +kernel
theorem dX10_sound_9 : decode cX10_sound 9 = .ok (.iconst (-1), 1) := by decide +kernel
theorem dX10_sound_10 : decode cX10_sound 10 = .ok (.ireturn, 1) := by decide +kernel
theorem dX10_sound_11 : decode cX10_sound 11 = .ok (.aload_n 0, 1) := by decide +kernel
theorem dX10_sound_12 : decode cX10_sound 12 = .ok (.getfield 10, 3) := by decide +kernel
theorem dX10_sound_15 : decode cX10_sound 15 = .ok (.getfield 65, 3) := by decide +kernel
theorem dX10_sound_18 : decode cX10_sound 18 = .ok (.iload_n 1, 1) := by decide +kernel
theorem dX10_sound_19 : decode cX10_sound 19 = .ok (.aaload, 1) := by decide +kernel
theorem dX10_sound_20 : decode cX10_sound 20 = .ok (.getfield 90, 3) := by decide +kernel
theorem dX10_sound_23 : decode cX10_sound 23 = .ok (.ireturn, 1) := by decide +kernel
set_option maxRecDepth 20000 in
theorem ggX10_contains_X10_outside : GoodIn wsX10_contains wsX10_outside := goodIn_r _ [8] (by decide +kernel) (by decide +kernel)
set_option maxRecDepth 20000 in
theorem gX10_contains_X10_outside : GoodIn wsX10_contains (va_wsS RX10 57 yX10_outside wsX10_outside) := goodIn_app (goodIn_of _ (by decide +kernel)) ggX10_contains_X10_outside
set_option maxRecDepth 20000 in
theorem ggX10_contains_X4_holds : GoodIn wsX10_contains wsX4_holds := goodIn_r _ [13, 14, 15, 16, 17, 18, 19, 20, 12, 21, 52, 53, 54, 55] (by decide +kernel) (by decide +kernel)
set_option maxRecDepth 20000 in
theorem gX10_contains_X4_holds : GoodIn wsX10_contains (wsV RX10 94 RX4 yX4_holds wsX4_holds) := goodIn_app (goodIn_of _ (by decide +kernel)) ggX10_contains_X4_holds
set_option maxRecDepth 20000 in
theorem ggX10_contains_X10_asNumber : GoodIn wsX10_contains wsX10_asNumber := goodIn_r _ [24] (by decide +kernel) (by decide +kernel)
set_option maxRecDepth 20000 in
theorem gX10_contains_X10_asNumber : GoodIn wsX10_contains (va_wsS RX10 98 yX10_asNumber wsX10_asNumber) := goodIn_app (goodIn_of _ (by decide +kernel)) ggX10_contains_X10_asNumber
theorem dX10_contains_0 : decode cX10_contains 0 = .ok (.iload_n 1, 1) := by decide +kernel
theorem dX10_contains_1 : decode cX10_contains 1 = .ok (.iconst 0, 1) := by decide +kernel
theorem dX10_contains_2 : decode cX10_contains 2 = .ok (.iconst 4, 1) := by decide +kernel
theorem dX10_contains_3 : decode cX10_contains 3 = .ok (.invokestatic 57, 3) := by decide +kernel
theorem dX10_contains_6 : decode cX10_contains 6 = .ok (.ifCond .eq 5, 3) := by decide +kernel
theorem dX10_contains_9 : decode cX10_contains 9 = .ok (.iconst (-1), 1) := by decide +kernel
theorem dX10_contains_10 : decode cX10_contains 10 = .ok (.ireturn, 1) := by decide +kernel
theorem dX10_contains_11 : decode cX10_contains 11 = .ok (.iload_n 2, 1) := by decide +kernel
theorem dX10_contains_12 : decode cX10_contains 12 = .ok (.ldc 93, 2) := by decide +kernel
theorem dX10_contains_14 : decode cX10_contains 14 = .ok (.ldc 82, 2) := by decide +kernel
theorem dX10_contains_16 : decode cX10_contains 16 = .ok (.invokestatic 57, 3) := by decide +kernel
theorem dX10_contains_19 : decode cX10_contains 19 = .ok (.ifCond .ne 14, 3) := by decide +kernel
theorem dX10_contains_22 : decode cX10_contains 22 = .ok (.iload_n 3, 1) := by decide +kernel
theorem dX10_contains_23 : decode cX10_contains 23 = .ok (.ldc 93, 2) := by decide +kernel
theorem dX10_contains_25 : decode cX10_contains 25 = .ok (.ldc 82, 2) := by decide +kernel
theorem dX10_contains_27 : decode cX10_contains 27 = .ok (.invokestatic 57, 3) := by decide +kernel
theorem dX10_contains_30 : decode cX10_contains 30 = .ok (.ifCond .eq 6, 3) := by decide +kernel
theorem dX10_contains_33 : decode cX10_contains 33 = .ok (.bipush (-2), 2) := by decide +kernel
theorem dX10_contains_35 : decode cX10_contains 35 = .ok (.ireturn, 1) := by decide +kernel
theorem dX10_contains_36 : decode cX10_contains 36 = .ok (.aload_n 0, 1) := by decide +kernel
theorem dX10_contains_37 : decode cX10_contains 37 = .ok (.getfield 10, 3) := by decide +kernel
theorem dX10_contains_40 : decode cX10_contains 40 = .ok (.getfield 65, 3) := by decide +kernel
theorem dX10_contains_43 : decode cX10_contains 43 = .ok (.iload_n 1, 1) := by decide +kernel
theorem dX10_contains_44 : decode cX10_contains 44 = .ok (.aaload, 1) := by decide +kernel
theorem dX10_contains_45 : decode cX10_contains 45 = .ok (.iload_n 2, 1) := by decide +kernel
theorem dX10_contains_46 : decode cX10_contains 46 = .ok (.i2l, 1) := by decide +kernel
theorem dX10_contains_47 : decode cX10_contains 47 = .ok (.iload_n 3, 1) := by decide +kernel
theorem dX10_contains_48 : decode cX10_contains 48 = .ok (.i2l, 1) := by decide +kernel
theorem dX10_contains_49 : decode cX10_contains 49 = .ok (.lconst 1, 1) := by decide +kernel
theorem dX10_contains_50 : decode cX10_contains 50 = .ok (.invokevirtual 94, 3) := by decide +kernel
theorem dX10_contains_53 : decode cX10_contains 53 = .ok (.invokestatic 98, 3) := by decide +kernel
theorem dX10_contains_56 : decode cX10_contains 56 = .ok (.ireturn, 1) := by decide +kernel
set_option maxRecDepth 20000 in
theorem ggX10_set_X10_outside : GoodIn wsX10_set wsX10_outside := goodIn_r _ [8] (by decide +kernel) (by decide +kernel)
set_option maxRecDepth 20000 in
theorem gX10_set_X10_outside : GoodIn wsX10_set (va_wsS RX10 57 yX10_outside wsX10_outside) := goodIn_app (goodIn_of _ (by decide +kernel)) ggX10_set_X10_outside
theorem dX10_set_0 : decode cX10_set 0 = .ok (.iload_n 1, 1) := by decide +kernel
theorem dX10_set_1 : decode cX10_set 1 = .ok (.iconst 0, 1) := by decide +kernel
theorem dX10_set_2 : decode cX10_set 2 = .ok (.bipush 7, 2) := by decide +kernel
theorem dX10_set_4 : decode cX10_set 4 = .ok (.invokestatic 57, 3) := by decide +kernel
theorem dX10_set_7 : decode cX10_set 7 = .ok (.ifCond .eq 6, 3) := by decide +kernel
theorem dX10_set_10 : decode cX10_set 10 = .ok (.bipush (-2), 2) := by decide +kernel
theorem dX10_set_12 : decode cX10_set 12 = .ok (.ireturn, 1) := by decide +kernel
theorem dX10_set_13 : decode cX10_set 13 = .ok (.iload_n 2, 1) := by decide +kernel
theorem dX10_set_14 : decode cX10_set 14 = .ok (.getstatic 102, 3) := by decide +kernel
theorem dX10_set_17 : decode cX10_set 17 = .ok (.iload_n 1, 1) := by decide +kernel
theorem dX10_set_18 : decode cX10_set 18 = .ok (.iaload, 1) := by decide +kernel
theorem dX10_set_19 : decode cX10_set 19 = .ok (.getstatic 105, 3) := by decide +kernel
theorem dX10_set_22 : decode cX10_set 22 = .ok (.iload_n 1, 1) := by decide +kernel
theorem dX10_set_23 : decode cX10_set 23 = .ok (.iaload, 1) := by decide +kernel
theorem dX10_set_24 : decode cX10_set 24 = .ok (.invokestatic 57, 3) := by decide +kernel
theorem dX10_set_27 : decode cX10_set 27 = .ok (.ifCond .eq 6, 3) := by decide +kernel
theorem dX10_set_30 : decode cX10_set 30 = .ok (.bipush (-2), 2) := by decide +kernel
theorem dX10_set_32 : decode cX10_set 32 = .ok (.ireturn, 1) := by decide +kernel
theorem dX10_set_33 : decode cX10_set 33 = .ok (.aload_n 0, 1) := by decide +kernel
theorem dX10_set_34 : decode cX10_set 34 = .ok (.getfield 10, 3) := by decide +kernel
theorem dX10_set_37 : decode cX10_set 37 = .ok (.getfield 108, 3) := by decide +kernel
theorem dX10_set_40 : decode cX10_set 40 = .ok (.iload_n 1, 1) := by decide +kernel
theorem dX10_set_41 : decode cX10_set 41 = .ok (.iaload, 1) := by decide +kernel
theorem dX10_set_42 : decode cX10_set 42 = .ok (.istore_n 3, 1) := by decide +kernel
theorem dX10_set_43 : decode cX10_set 43 = .ok (.aload_n 0, 1) := by decide +kernel
theorem dX10_set_44 : decode cX10_set 44 = .ok (.getfield 10, 3) := by decide +kernel
theorem dX10_set_47 : decode cX10_set 47 = .ok (.getfield 108, 3) := by decide +kernel
theorem dX10_set_50 : decode cX10_set 50 = .ok (.iload_n 1, 1) := by decide +kernel
theorem dX10_set_51 : decode cX10_set 51 = .ok (.iload_n 2, 1) := by decide +kernel
theorem dX10_set_52 : decode cX10_set 52 = .ok (.iastore, 1) := by decide +kernel
theorem dX10_set_53 : decode cX10_set 53 = .ok (.iload_n 3, 1) := by decide +kernel
theorem dX10_set_54 : decode cX10_set 54 = .ok (.ireturn, 1) := by decide +kernel
set_option maxRecDepth 20000 in
theorem ggX10_zone_X10_outside : GoodIn wsX10_zone wsX10_outside := goodIn_r _ [8] (by decide +kernel) (by decide +kernel)
set_option maxRecDepth 20000 in
theorem gX10_zone_X10_outside : GoodIn wsX10_zone (va_wsS RX10 57 yX10_outside wsX10_outside) := goodIn_app (goodIn_of _ (by decide +kernel)) ggX10_zone_X10_outside
theorem dX10_zone_0 : decode cX10_zone 0 = .ok (.iload_n 1, 1) := by decide +kernel
theorem dX10_zone_1 : decode cX10_zone 1 = .ok (.iconst 0, 1) := by decide +kernel
theorem dX10_zone_2 : decode cX10_zone 2 = .ok (.iconst 2, 1) := by decide +kernel
theorem dX10_zone_3 : decode cX10_zone 3 = .ok (.invokestatic 57, 3) := by decide +kernel
theorem dX10_zone_6 : decode cX10_zone 6 = .ok (.ifCond .eq 5, 3) := by decide +kernel
theorem dX10_zone_9 : decode cX10_zone 9 = .ok (.iconst (-1), 1) := by decide +kernel
theorem dX10_zone_10 : decode cX10_zone 10 = .ok (.ireturn, 1) := by decide +kernel
theorem dX10_zone_11 : decode cX10_zone 11 = .ok (.iload_n 2, 1) := by decide +kernel
theorem dX10_zone_12 : decode cX10_zone 12 = .ok (.iconst 1, 1) := by decide +kernel
theorem dX10_zone_13 : decode cX10_zone 13 = .ok (.sipush 2400, 3) := by decide +kernel
theorem dX10_zone_16 : decode cX10_zone 16 = .ok (.invokestatic 57, 3) := by decide +kernel
theorem dX10_zone_19 : decode cX10_zone 19 = .ok (.ifCond .ne 12, 3) := by decide +kernel
theorem dX10_zone_22 : decode cX10_zone 22 = .ok (.iload_n 3, 1) := by decide +kernel
theorem dX10_zone_23 : decode cX10_zone 23 = .ok (.iconst 0, 1) := by decide +kernel
theorem dX10_zone_24 : decode cX10_zone 24 = .ok (.iconst 2, 1) := by decide +kernel
theorem dX10_zone_25 : decode cX10_zone 25 = .ok (.invokestatic 57, 3) := by decide +kernel
theorem dX10_zone_28 : decode cX10_zone 28 = .ok (.ifCond .eq 6, 3) := by decide +kernel
theorem dX10_zone_31 : decode cX10_zone 31 = .ok (.bipush (-2), 2) := by decide +kernel
theorem dX10_zone_33 : decode cX10_zone 33 = .ok (.ireturn, 1) := by decide +kernel
theorem dX10_zone_34 : decode cX10_zone 34 = .ok (.aload_n 0, 1) := by decide +kernel
theorem dX10_zone_35 : decode cX10_zone 35 = .ok (.getfield 10, 3) := by decide +kernel
theorem dX10_zone_38 : decode cX10_zone 38 = .ok (.getfield 111, 3) := by decide +kernel
theorem dX10_zone_41 : decode cX10_zone 41 = .ok (.iload_n 1, 1) := by decide +kernel
theorem dX10_zone_42 : decode cX10_zone 42 = .ok (.aaload, 1) := by decide +kernel
theorem dX10_zone_43 : decode cX10_zone 43 = .ok (.astore 4, 2) := by decide +kernel
theorem dX10_zone_45 : decode cX10_zone 45 = .ok (.aload 4, 2) := by decide +kernel
theorem dX10_zone_47 : decode cX10_zone 47 = .ok (.getfield 115, 3) := by decide +kernel
theorem dX10_zone_50 : decode cX10_zone 50 = .ok (.istore 5, 2) := by decide +kernel
theorem dX10_zone_52 : decode cX10_zone 52 = .ok (.aload 4, 2) := by decide +kernel
theorem dX10_zone_54 : decode cX10_zone 54 = .ok (.iload_n 2, 1) := by decide +kernel
theorem dX10_zone_55 : decode cX10_zone 55 = .ok (.putfield 115, 3) := by decide +kernel
theorem dX10_zone_58 : decode cX10_zone 58 = .ok (.aload 4, 2) := by decide +kernel
theorem dX10_zone_60 : decode cX10_zone 60 = .ok (.iload_n 3, 1) := by decide +kernel
theorem dX10_zone_61 : decode cX10_zone 61 = .ok (.putfield 120, 3) := by decide +kernel
theorem dX10_zone_64 : decode cX10_zone 64 = .ok (.iload 5, 2) := by decide +kernel
theorem dX10_zone_66 : decode cX10_zone 66 = .ok (.ireturn, 1) := by decide +kernel
set_option maxRecDepth 20000 in
theorem ggX10_apply_X10_beyondLimit : GoodIn wsX10_apply wsX10_beyondLimit := goodIn_r _ [8, 9, 10, 7, 11] (by decide +kernel) (by decide +kernel)
set_option maxRecDepth 20000 in
theorem gX10_apply_X10_beyondLimit : GoodIn wsX10_apply (va_wsS RX10 61 yX10_beyondLimit wsX10_beyondLimit) := goodIn_app (goodIn_of _ (by decide +kernel)) ggX10_apply_X10_beyondLimit
set_option maxRecDepth 20000 in
theorem ggX10_apply_X3_put : GoodIn wsX10_apply wsX3_put := goodIn_r _ [16, 17, 18, 19, 20, 59, 60, 61, 62] (by decide +kernel) (by decide +kernel)
set_option maxRecDepth 20000 in
theorem gX10_apply_X3_put : GoodIn wsX10_apply (wsV RX10 132 RX3 yX3_put wsX3_put) := goodIn_app (goodIn_of _ (by decide +kernel)) ggX10_apply_X3_put
set_option maxRecDepth 20000 in
theorem ggX10_apply_X7_endRamp : GoodIn wsX10_apply wsX7_endRamp := goodIn_r _ [25, 26, 54, 55, 56, 57, 58] (by decide +kernel) (by decide +kernel)
set_option maxRecDepth 20000 in
theorem gX10_apply_X7_endRamp : GoodIn wsX10_apply (wsV RX10 136 RX7 yX7_endRamp wsX7_endRamp) := goodIn_app (goodIn_of _ (by decide +kernel)) ggX10_apply_X7_endRamp
theorem dX10_apply_0 : decode cX10_apply 0 = .ok (.iload_n 1, 1) := by decide +kernel
theorem dX10_apply_1 : decode cX10_apply 1 = .ok (.invokestatic 61, 3) := by decide +kernel
theorem dX10_apply_4 : decode cX10_apply 4 = .ok (.ifCond .ne 25, 3) := by decide +kernel
theorem dX10_apply_7 : decode cX10_apply 7 = .ok (.iload_n 2, 1) := by decide +kernel
theorem dX10_apply_8 : decode cX10_apply 8 = .ok (.invokestatic 61, 3) := by decide +kernel
theorem dX10_apply_11 : decode cX10_apply 11 = .ok (.ifCond .ne 18, 3) := by decide +kernel
theorem dX10_apply_14 : decode cX10_apply 14 = .ok (.iload_n 3, 1) := by decide +kernel
theorem dX10_apply_15 : decode cX10_apply 15 = .ok (.invokestatic 61, 3) := by decide +kernel
theorem dX10_apply_18 : decode cX10_apply 18 = .ok (.ifCond .ne 11, 3) := by decide +kernel
theorem dX10_apply_21 : decode cX10_apply 21 = .ok (.iload 4, 2) := by decide +kernel
theorem dX10_apply_23 : decode cX10_apply 23 = .ok (.invokestatic 61, 3) := by decide +kernel
theorem dX10_apply_26 : decode cX10_apply 26 = .ok (.ifCond .eq 6, 3) := by decide +kernel
theorem dX10_apply_29 : decode cX10_apply 29 = .ok (.bipush (-2), 2) := by decide +kernel
theorem dX10_apply_31 : decode cX10_apply 31 = .ok (.ireturn, 1) := by decide +kernel
theorem dX10_apply_32 : decode cX10_apply 32 = .ok (.aload_n 0, 1) := by decide +kernel
theorem dX10_apply_33 : decode cX10_apply 33 = .ok (.getfield 10, 3) := by decide +kernel
theorem dX10_apply_36 : decode cX10_apply 36 = .ok (.getfield 123, 3) := by decide +kernel
theorem dX10_apply_39 : decode cX10_apply 39 = .ok (.getfield 127, 3) := by decide +kernel
theorem dX10_apply_42 : decode cX10_apply 42 = .ok (.iload_n 1, 1) := by decide +kernel
theorem dX10_apply_43 : decode cX10_apply 43 = .ok (.iload_n 2, 1) := by decide +kernel
theorem dX10_apply_44 : decode cX10_apply 44 = .ok (.iload_n 3, 1) := by decide +kernel
theorem dX10_apply_45 : decode cX10_apply 45 = .ok (.iload 4, 2) := by decide +kernel
theorem dX10_apply_47 : decode cX10_apply 47 = .ok (.invokevirtual 132, 3) := by decide +kernel
theorem dX10_apply_50 : decode cX10_apply 50 = .ok (.aload_n 0, 1) := by decide +kernel
theorem dX10_apply_51 : decode cX10_apply 51 = .ok (.getfield 10, 3) := by decide +kernel
theorem dX10_apply_54 : decode cX10_apply 54 = .ok (.getfield 123, 3) := by decide +kernel
theorem dX10_apply_57 : decode cX10_apply 57 = .ok (.invokevirtual 136, 3) := by decide +kernel
theorem dX10_apply_60 : decode cX10_apply 60 = .ok (.aload_n 0, 1) := by decide +kernel
theorem dX10_apply_61 : decode cX10_apply 61 = .ok (.getfield 10, 3) := by decide +kernel
theorem dX10_apply_64 : decode cX10_apply 64 = .ok (.getfield 139, 3) := by decide +kernel
theorem dX10_apply_67 : decode cX10_apply 67 = .ok (.ireturn, 1) := by decide +kernel
set_option maxRecDepth 20000 in
theorem ggX10_ramp_X10_outside : GoodIn wsX10_ramp wsX10_outside := goodIn_r _ [8] (by decide +kernel) (by decide +kernel)
set_option maxRecDepth 20000 in
theorem gX10_ramp_X10_outside : GoodIn wsX10_ramp (va_wsS RX10 57 yX10_outside wsX10_outside) := goodIn_app (goodIn_of _ (by decide +kernel)) ggX10_ramp_X10_outside
set_option maxRecDepth 20000 in
theorem ggX10_ramp_X10_beyondLimit : GoodIn wsX10_ramp wsX10_beyondLimit := goodIn_r _ [11, 5, 6, 7, 8] (by decide +kernel) (by decide +kernel)
set_option maxRecDepth 20000 in
theorem gX10_ramp_X10_beyondLimit : GoodIn wsX10_ramp (va_wsS RX10 61 yX10_beyondLimit wsX10_beyondLimit) := goodIn_app (goodIn_of _ (by decide +kernel)) ggX10_ramp_X10_beyondLimit
set_option maxRecDepth 20000 in
theorem ggX10_ramp_X3_put : GoodIn wsX10_ramp wsX3_put := goodIn_r _ [16, 17, 18, 19, 20, 67, 68, 69, 70] (by decide +kernel) (by decide +kernel)
set_option maxRecDepth 20000 in
theorem gX10_ramp_X3_put : GoodIn wsX10_ramp (wsV RX10 132 RX3 yX3_put wsX3_put) := goodIn_app (goodIn_of _ (by decide +kernel)) ggX10_ramp_X3_put
set_option maxRecDepth 20000 in
theorem ggX10_ramp_X7_beginRamp : GoodIn wsX10_ramp wsX7_beginRamp := goodIn_r _ [25, 26, 27, 28, 29, 30, 31, 32, 15, 33, 17, 18, 19, 20, 34, 13, 14, 16, 62, 63, 64, 65, 66, 67, 68, 69, 70] (by decide +kernel) (by decide +kernel)
set_option maxRecDepth 20000 in
theorem gX10_ramp_X7_beginRamp : GoodIn wsX10_ramp (wsV RX10 145 RX7 yX7_beginRamp wsX7_beginRamp) := goodIn_app (goodIn_of _ (by decide +kernel)) ggX10_ramp_X7_beginRamp
theorem dX10_ramp_0 : decode cX10_ramp 0 = .ok (.iload_n 1, 1) := by decide +kernel
theorem dX10_ramp_1 : decode cX10_ramp 1 = .ok (.iconst 1, 1) := by decide +kernel
theorem dX10_ramp_2 : decode cX10_ramp 2 = .ok (.sipush 2400, 3) := by decide +kernel
theorem dX10_ramp_5 : decode cX10_ramp 5 = .ok (.invokestatic 57, 3) := by decide +kernel
theorem dX10_ramp_8 : decode cX10_ramp 8 = .ok (.ifCond .eq 6, 3) := by decide +kernel
theorem dX10_ramp_11 : decode cX10_ramp 11 = .ok (.bipush (-2), 2) := by decide +kernel
theorem dX10_ramp_13 : decode cX10_ramp 13 = .ok (.ireturn, 1) := by decide +kernel
theorem dX10_ramp_14 : decode cX10_ramp 14 = .ok (.iload_n 2, 1) := by decide +kernel
theorem dX10_ramp_15 : decode cX10_ramp 15 = .ok (.invokestatic 61, 3) := by decide +kernel
theorem dX10_ramp_18 : decode cX10_ramp 18 = .ok (.ifCond .ne 26, 3) := by decide +kernel
theorem dX10_ramp_21 : decode cX10_ramp 21 = .ok (.iload_n 3, 1) := by decide +kernel
theorem dX10_ramp_22 : decode cX10_ramp 22 = .ok (.invokestatic 61, 3) := by decide +kernel
theorem dX10_ramp_25 : decode cX10_ramp 25 = .ok (.ifCond .ne 19, 3) := by decide +kernel
theorem dX10_ramp_28 : decode cX10_ramp 28 = .ok (.iload 4, 2) := by decide +kernel
theorem dX10_ramp_30 : decode cX10_ramp 30 = .ok (.invokestatic 61, 3) := by decide +kernel
theorem dX10_ramp_33 : decode cX10_ramp 33 = .ok (.ifCond .ne 11, 3) := by decide +kernel
theorem dX10_ramp_36 : decode cX10_ramp 36 = .ok (.iload 5, 2) := by decide +kernel
theorem dX10_ramp_38 : decode cX10_ramp 38 = .ok (.invokestatic 61, 3) := by decide +kernel
theorem dX10_ramp_41 : decode cX10_ramp 41 = .ok (.ifCond .eq 6, 3) := by decide +kernel
theorem dX10_ramp_44 : decode cX10_ramp 44 = .ok (.bipush (-2), 2) := by decide +kernel
theorem dX10_ramp_46 : decode cX10_ramp 46 = .ok (.ireturn, 1) := by decide +kernel
theorem dX10_ramp_47 : decode cX10_ramp 47 = .ok (.aload_n 0, 1) := by decide +kernel
theorem dX10_ramp_48 : decode cX10_ramp 48 = .ok (.getfield 10, 3) := by decide +kernel
theorem dX10_ramp_51 : decode cX10_ramp 51 = .ok (.getfield 123, 3) := by decide +kernel
theorem dX10_ramp_54 : decode cX10_ramp 54 = .ok (.getfield 142, 3) := by decide +kernel
theorem dX10_ramp_57 : decode cX10_ramp 57 = .ok (.iload_n 2, 1) := by decide +kernel
theorem dX10_ramp_58 : decode cX10_ramp 58 = .ok (.iload_n 3, 1) := by decide +kernel
theorem dX10_ramp_59 : decode cX10_ramp 59 = .ok (.iload 4, 2) := by decide +kernel
theorem dX10_ramp_61 : decode cX10_ramp 61 = .ok (.iload 5, 2) := by decide +kernel
theorem dX10_ramp_63 : decode cX10_ramp 63 = .ok (.invokevirtual 132, 3) := by decide +kernel
theorem dX10_ramp_66 : decode cX10_ramp 66 = .ok (.aload_n 0, 1) := by decide +kernel
theorem dX10_ramp_67 : decode cX10_ramp 67 = .ok (.getfield 10, 3) := by decide +kernel
theorem dX10_ramp_70 : decode cX10_ramp 70 = .ok (.getfield 123, 3) := by decide +kernel
theorem dX10_ramp_73 : decode cX10_ramp 73 = .ok (.iload_n 1, 1) := by decide +kernel
theorem dX10_ramp_74 : decode cX10_ramp 74 = .ok (.invokevirtual 145, 3) := by decide +kernel
theorem dX10_ramp_77 : decode cX10_ramp 77 = .ok (.aload_n 0, 1) := by decide +kernel
theorem dX10_ramp_78 : decode cX10_ramp 78 = .ok (.getfield 10, 3) := by decide +kernel
theorem dX10_ramp_81 : decode cX10_ramp 81 = .ok (.getfield 139, 3) := by decide +kernel
theorem dX10_ramp_84 : decode cX10_ramp 84 = .ok (.ireturn, 1) := by decide +kernel
set_option maxRecDepth 20000 in
theorem ggX10_network_X10_outside : GoodIn wsX10_network wsX10_outside := goodIn_r _ [8] (by decide +kernel) (by decide +kernel)
set_option maxRecDepth 20000 in
theorem gX10_network_X10_outside : GoodIn wsX10_network (va_wsS RX10 57 yX10_outside wsX10_outside) := goodIn_app (goodIn_of _ (by decide +kernel)) ggX10_network_X10_outside
theorem dX10_network_0 : decode cX10_network 0 = .ok (.iload_n 1, 1) := by decide +kernel
theorem dX10_network_1 : decode cX10_network 1 = .ok (.iconst 0, 1) := by decide +kernel
theorem dX10_network_2 : decode cX10_network 2 = .ok (.iconst 3, 1) := by decide +kernel
theorem dX10_network_3 : decode cX10_network 3 = .ok (.invokestatic 57, 3) := by decide +kernel
theorem dX10_network_6 : decode cX10_network 6 = .ok (.ifCond .eq 6, 3) := by decide +kernel
theorem dX10_network_9 : decode cX10_network 9 = .ok (.bipush (-2), 2) := by decide +kernel
theorem dX10_network_11 : decode cX10_network 11 = .ok (.ireturn, 1) := by decide +kernel
theorem dX10_network_12 : decode cX10_network 12 = .ok (.iload_n 1, 1) := by decide +kernel
theorem dX10_network_13 : decode cX10_network 13 = .ok (.ifCond .ne 7, 3) := by decide +kernel
theorem dX10_network_16 : decode cX10_network 16 = .ok (.iconst 1, 1) := by decide +kernel
theorem dX10_network_17 : decode cX10_network 17 = .ok (.goto 4, 3) := by decide +kernel
theorem dX10_network_20 : decode cX10_network 20 = .ok (.iconst 0, 1) := by decide +kernel
theorem dX10_network_21 : decode cX10_network 21 = .ok (.istore 4, 2) := by decide +kernel
theorem dX10_network_23 : decode cX10_network 23 = .ok (.iload_n 2, 1) := by decide +kernel
theorem dX10_network_24 : decode cX10_network 24 = .ok (.iload 4, 2) := by decide +kernel
theorem dX10_network_26 : decode cX10_network 26 = .ok (.ifCond .eq 7, 3) := by decide +kernel
theorem dX10_network_29 : decode cX10_network 29 = .ok (.iconst 1, 1) := by decide +kernel
theorem dX10_network_30 : decode cX10_network 30 = .ok (.goto 4, 3) := by decide +kernel
theorem dX10_network_33 : decode cX10_network 33 = .ok (.iconst 0, 1) := by decide +kernel
theorem dX10_network_34 : decode cX10_network 34 = .ok (.sipush 20000, 3) := by decide +kernel
theorem dX10_network_37 : decode cX10_network 37 = .ok (.invokestatic 57, 3) := by decide +kernel
theorem dX10_network_40 : decode cX10_network 40 = .ok (.ifCond .ne 23, 3) := by decide +kernel
theorem dX10_network_43 : decode cX10_network 43 = .ok (.iload_n 3, 1) := by decide +kernel
theorem dX10_network_44 : decode cX10_network 44 = .ok (.iconst 0, 1) := by decide +kernel
theorem dX10_network_45 : decode cX10_network 45 = .ok (.iload 4, 2) := by decide +kernel
theorem dX10_network_47 : decode cX10_network 47 = .ok (.ifCond .eq 7, 3) := by decide +kernel
theorem dX10_network_50 : decode cX10_network 50 = .ok (.iconst 0, 1) := by decide +kernel
theorem dX10_network_51 : decode cX10_network 51 = .ok (.goto 6, 3) := by decide +kernel
theorem dX10_network_54 : decode cX10_network 54 = .ok (.sipush 20000, 3) := by decide +kernel
theorem dX10_network_57 : decode cX10_network 57 = .ok (.invokestatic 57, 3) := by decide +kernel
theorem dX10_network_60 : decode cX10_network 60 = .ok (.ifCond .eq 6, 3) := by decide +kernel
theorem dX10_network_63 : decode cX10_network 63 = .ok (.bipush (-2), 2) := by decide +kernel
theorem dX10_network_65 : decode cX10_network 65 = .ok (.ireturn, 1) := by decide +kernel
theorem dX10_network_66 : decode cX10_network 66 = .ok (.aload_n 0, 1) := by decide +kernel
theorem dX10_network_67 : decode cX10_network 67 = .ok (.getfield 10, 3) := by decide +kernel
theorem dX10_network_70 : decode cX10_network 70 = .ok (.getfield 149, 3) := by decide +kernel
theorem dX10_network_73 : decode cX10_network 73 = .ok (.getfield 153, 3) := by decide +kernel
theorem dX10_network_76 : decode cX10_network 76 = .ok (.iload_n 1, 1) := by decide +kernel
theorem dX10_network_77 : decode cX10_network 77 = .ok (.iaload, 1) := by decide +kernel
theorem dX10_network_78 : decode cX10_network 78 = .ok (.istore 5, 2) := by decide +kernel
theorem dX10_network_80 : decode cX10_network 80 = .ok (.aload_n 0, 1) := by decide +kernel
theorem dX10_network_81 : decode cX10_network 81 = .ok (.getfield 10, 3) := by decide +kernel
theorem dX10_network_84 : decode cX10_network 84 = .ok (.getfield 149, 3) := by decide +kernel
theorem dX10_network_87 : decode cX10_network 87 = .ok (.getfield 153, 3) := by decide +kernel
theorem dX10_network_90 : decode cX10_network 90 = .ok (.iload_n 1, 1) := by decide +kernel
theorem dX10_network_91 : decode cX10_network 91 = .ok (.iload_n 2, 1) := by decide +kernel
theorem dX10_network_92 : decode cX10_network 92 = .ok (.iastore, 1) := by decide +kernel
theorem dX10_network_93 : decode cX10_network 93 = .ok (.aload_n 0, 1) := by decide +kernel
theorem dX10_network_94 : decode cX10_network 94 = .ok (.getfield 10, 3) := by decide +kernel
theorem dX10_network_97 : decode cX10_network 97 = .ok (.getfield 149, 3) := by decide +kernel
theorem dX10_network_100 : decode cX10_network 100 = .ok (.getfield 158, 3) := by decide +kernel
theorem dX10_network_103 : decode cX10_network 103 = .ok (.iload_n 1, 1) := by decide +kernel
theorem dX10_network_104 : decode cX10_network 104 = .ok (.iload_n 3, 1) := by decide +kernel
theorem dX10_network_105 : decode cX10_network 105 = .ok (.iastore, 1) := by decide +kernel
theorem dX10_network_106 : decode cX10_network 106 = .ok (.iload 5, 2) := by decide +kernel
theorem dX10_network_108 : decode cX10_network 108 = .ok (.ireturn, 1) := by decide +kernel
set_option maxRecDepth 20000 in
theorem ggX10_fault_X10_isNoFault : GoodIn wsX10_fault wsX10_isNoFault := goodIn_r _ [9, 10, 11, 8, 12] (by decide +kernel) (by decide +kernel)
set_option maxRecDepth 20000 in
theorem gX10_fault_X10_isNoFault : GoodIn wsX10_fault (va_wsS RX10 161 yX10_isNoFault wsX10_isNoFault) := goodIn_app (goodIn_of _ (by decide +kernel)) ggX10_fault_X10_isNoFault
set_option maxRecDepth 20000 in
theorem ggX10_fault_X2_findFaulted : GoodIn wsX10_fault wsX2_findFaulted := goodIn_r _ [17, 18, 19, 20, 21, 22, 16, 23, 24, 25, 26, 27, 28, 29, 30, 31, 32, 33, 34, 35, 36, 37, 38, 39, 40, 41, 42, 43, 44, 45, 46, 90, 91, 92, 93, 94, 95] (by decide +kernel) (by decide +kernel)
set_option maxRecDepth 20000 in
theorem gX10_fault_X2_findFaulted : GoodIn wsX10_fault (wsV RX10 165 RX2 yX2_findFaulted wsX2_findFaulted) := goodIn_app (goodIn_of _ (by decide +kernel)) ggX10_fault_X2_findFaulted
set_option maxRecDepth 20000 in
theorem ggX10_fault_X7_jumpTo : GoodIn wsX10_fault wsX7_jumpTo := goodIn_r _ [51, 52, 53, 54, 55, 41, 56, 43, 44, 45, 46, 57, 39, 40, 42, 58, 59, 60, 50, 61, 62, 96, 97, 98, 99, 100, 92, 93, 94, 95] (by decide +kernel) (by decide +kernel)
set_option maxRecDepth 20000 in
theorem gX10_fault_X7_jumpTo : GoodIn wsX10_fault (wsV RX10 169 RX7 yX7_jumpTo wsX7_jumpTo) := goodIn_app (goodIn_of _ (by decide +kernel)) ggX10_fault_X7_jumpTo
theorem dX10_fault_0 : decode cX10_fault 0 = .ok (.iload_n 1, 1) := by decide +kernel
theorem dX10_fault_1 : decode cX10_fault 1 = .ok (.iload_n 2, 1) := by decide +kernel
theorem dX10_fault_2 : decode cX10_fault 2 = .ok (.invokestatic 161, 3) := by decide +kernel
theorem dX10_fault_5 : decode cX10_fault 5 = .ok (.ifCond .eq 6, 3) := by decide +kernel
theorem dX10_fault_8 : decode cX10_fault 8 = .ok (.bipush (-2), 2) := by decide +kernel
theorem dX10_fault_10 : decode cX10_fault 10 = .ok (.ireturn, 1) := by decide +kernel
theorem dX10_fault_11 : decode cX10_fault 11 = .ok (.aload_n 0, 1) := by decide +kernel
theorem dX10_fault_12 : decode cX10_fault 12 = .ok (.getfield 10, 3) := by decide +kernel
theorem dX10_fault_15 : decode cX10_fault 15 = .ok (.getfield 149, 3) := by decide +kernel
theorem dX10_fault_18 : decode cX10_fault 18 = .ok (.iload_n 1, 1) := by decide +kernel
theorem dX10_fault_19 : decode cX10_fault 19 = .ok (.iload_n 2, 1) := by decide +kernel
theorem dX10_fault_20 : decode cX10_fault 20 = .ok (.aload_n 0, 1) := by decide +kernel
theorem dX10_fault_21 : decode cX10_fault 21 = .ok (.getfield 26, 3) := by decide +kernel
theorem dX10_fault_24 : decode cX10_fault 24 = .ok (.invokevirtual 165, 3) := by decide +kernel
theorem dX10_fault_27 : decode cX10_fault 27 = .ok (.ifCond .ne 6, 3) := by decide +kernel
theorem dX10_fault_30 : decode cX10_fault 30 = .ok (.bipush (-5), 2) := by decide +kernel
theorem dX10_fault_32 : decode cX10_fault 32 = .ok (.ireturn, 1) := by decide +kernel
theorem dX10_fault_33 : decode cX10_fault 33 = .ok (.aload_n 0, 1) := by decide +kernel
theorem dX10_fault_34 : decode cX10_fault 34 = .ok (.getfield 10, 3) := by decide +kernel
theorem dX10_fault_37 : decode cX10_fault 37 = .ok (.getfield 123, 3) := by decide +kernel
theorem dX10_fault_40 : decode cX10_fault 40 = .ok (.aload_n 0, 1) := by decide +kernel
theorem dX10_fault_41 : decode cX10_fault 41 = .ok (.getfield 26, 3) := by decide +kernel
theorem dX10_fault_44 : decode cX10_fault 44 = .ok (.invokevirtual 169, 3) := by decide +kernel
theorem dX10_fault_47 : decode cX10_fault 47 = .ok (.aload_n 0, 1) := by decide +kernel
theorem dX10_fault_48 : decode cX10_fault 48 = .ok (.getfield 10, 3) := by decide +kernel
theorem dX10_fault_51 : decode cX10_fault 51 = .ok (.getfield 139, 3) := by decide +kernel
theorem dX10_fault_54 : decode cX10_fault 54 = .ok (.ireturn, 1) := by decide +kernel
set_option maxRecDepth 20000 in
theorem ggX10_healthy_X2_findUnfaulted : GoodIn wsX10_healthy wsX2_findUnfaulted := goodIn_r _ [10, 11, 12, 13, 14, 15, 9, 16, 17, 18, 19, 20, 21, 22, 23, 24, 25, 26, 27, 28, 29, 30, 31, 32, 33, 34, 35, 36, 37, 38, 39, 83, 84, 85, 86, 87, 88] (by decide +kernel) (by decide +kernel)
set_option maxRecDepth 20000 in
theorem gX10_healthy_X2_findUnfaulted : GoodIn wsX10_healthy (wsV RX10 173 RX2 yX2_findUnfaulted wsX2_findUnfaulted) := goodIn_app (goodIn_of _ (by decide +kernel)) ggX10_healthy_X2_findUnfaulted
set_option maxRecDepth 20000 in
theorem ggX10_healthy_X7_jumpTo : GoodIn wsX10_healthy wsX7_jumpTo := goodIn_r _ [44, 45, 46, 47, 48, 34, 49, 36, 37, 38, 39, 50, 32, 33, 35, 51, 52, 53, 43, 54, 55, 89, 90, 91, 92, 93, 85, 86, 87, 88] (by decide +kernel) (by decide +kernel)
set_option maxRecDepth 20000 in
theorem gX10_healthy_X7_jumpTo : GoodIn wsX10_healthy (wsV RX10 169 RX7 yX7_jumpTo wsX7_jumpTo) := goodIn_app (goodIn_of _ (by decide +kernel)) ggX10_healthy_X7_jumpTo
theorem dX10_healthy_0 : decode cX10_healthy 0 = .ok (.aload_n 0, 1) := by decide +kernel
theorem dX10_healthy_1 : decode cX10_healthy 1 = .ok (.getfield 10, 3) := by decide +kernel
theorem dX10_healthy_4 : decode cX10_healthy 4 = .ok (.getfield 149, 3) := by decide +kernel
theorem dX10_healthy_7 : decode cX10_healthy 7 = .ok (.aload_n 0, 1) := by decide +kernel
theorem dX10_healthy_8 : decode cX10_healthy 8 = .ok (.getfield 30, 3) := by decide +kernel
theorem dX10_healthy_11 : decode cX10_healthy 11 = .ok (.invokevirtual 173, 3) := by decide +kernel
theorem dX10_healthy_14 : decode cX10_healthy 14 = .ok (.ifCond .ne 6, 3) := by decide +kernel
theorem dX10_healthy_17 : decode cX10_healthy 17 = .ok (.bipush (-5), 2) := by decide +kernel
theorem dX10_healthy_19 : decode cX10_healthy 19 = .ok (.ireturn, 1) := by decide +kernel
theorem dX10_healthy_20 : decode cX10_healthy 20 = .ok (.aload_n 0, 1) := by decide +kernel
theorem dX10_healthy_21 : decode cX10_healthy 21 = .ok (.getfield 10, 3) := by decide +kernel
theorem dX10_healthy_24 : decode cX10_healthy 24 = .ok (.getfield 123, 3) := by decide +kernel
theorem dX10_healthy_27 : decode cX10_healthy 27 = .ok (.aload_n 0, 1) := by decide +kernel
theorem dX10_healthy_28 : decode cX10_healthy 28 = .ok (.getfield 30, 3) := by decide +kernel
theorem dX10_healthy_31 : decode cX10_healthy 31 = .ok (.invokevirtual 169, 3) := by decide +kernel
theorem dX10_healthy_34 : decode cX10_healthy 34 = .ok (.aload_n 0, 1) := by decide +kernel
theorem dX10_healthy_35 : decode cX10_healthy 35 = .ok (.getfield 10, 3) := by decide +kernel
theorem dX10_healthy_38 : decode cX10_healthy 38 = .ok (.getfield 139, 3) := by decide +kernel
theorem dX10_healthy_41 : decode cX10_healthy 41 = .ok (.ireturn, 1) := by decide +kernel
theorem dX10_phasor_0 : decode cX10_phasor 0 = .ok (.aload_n 0, 1) := by decide +kernel
theorem dX10_phasor_1 : decode cX10_phasor 1 = .ok (.getfield 10, 3) := by decide +kernel
theorem dX10_phasor_4 : decode cX10_phasor 4 = .ok (.getfield 123, 3) := by decide +kernel
theorem dX10_phasor_7 : decode cX10_phasor 7 = .ok (.getfield 127, 3) := by decide +kernel
theorem dX10_phasor_10 : decode cX10_phasor 10 = .ok (.astore_n 2, 1) := by decide +kernel
theorem dX10_phasor_11 : decode cX10_phasor 11 = .ok (.iload_n 1, 1) := by decide +kernel
theorem dX10_phasor_12 : decode cX10_phasor 12 = .ok (.tableswitch 72 0 4 #[36, 42, 48, 54, 60], 36) := by decide +kernel
theorem dX10_phasor_48 : decode cX10_phasor 48 = .ok (.aload_n 2, 1) := by decide +kernel
theorem dX10_phasor_49 : decode cX10_phasor 49 = .ok (.getfield 177, 3) := by decide +kernel
theorem dX10_phasor_52 : decode cX10_phasor 52 = .ok (.i2l, 1) := by decide +kernel
theorem dX10_phasor_53 : decode cX10_phasor 53 = .ok (.lreturn, 1) := by decide +kernel
theorem dX10_phasor_54 : decode cX10_phasor 54 = .ok (.aload_n 2, 1) := by decide +kernel
theorem dX10_phasor_55 : decode cX10_phasor 55 = .ok (.getfield 180, 3) := by decide +kernel
theorem dX10_phasor_58 : decode cX10_phasor 58 = .ok (.i2l, 1) := by decide +kernel
theorem dX10_phasor_59 : decode cX10_phasor 59 = .ok (.lreturn, 1) := by decide +kernel
theorem dX10_phasor_60 : decode cX10_phasor 60 = .ok (.aload_n 2, 1) := by decide +kernel
theorem dX10_phasor_61 : decode cX10_phasor 61 = .ok (.getfield 183, 3) := by decide +kernel
theorem dX10_phasor_64 : decode cX10_phasor 64 = .ok (.i2l, 1) := by decide +kernel
theorem dX10_phasor_65 : decode cX10_phasor 65 = .ok (.lreturn, 1) := by decide +kernel
theorem dX10_phasor_66 : decode cX10_phasor 66 = .ok (.aload_n 2, 1) := by decide +kernel
theorem dX10_phasor_67 : decode cX10_phasor 67 = .ok (.getfield 186, 3) := by decide +kernel
theorem dX10_phasor_70 : decode cX10_phasor 70 = .ok (.i2l, 1) := by decide +kernel
theorem dX10_phasor_71 : decode cX10_phasor 71 = .ok (.lreturn, 1) := by decide +kernel
theorem dX10_phasor_72 : decode cX10_phasor 72 = .ok (.aload_n 0, 1) := by decide +kernel
theorem dX10_phasor_73 : decode cX10_phasor 73 = .ok (.getfield 10, 3) := by decide +kernel
theorem dX10_phasor_76 : decode cX10_phasor 76 = .ok (.getfield 123, 3) := by decide +kernel
theorem dX10_phasor_79 : decode cX10_phasor 79 = .ok (.getfield 189, 3) := by decide +kernel
theorem dX10_phasor_82 : decode cX10_phasor 82 = .ok (.i2l, 1) := by decide +kernel
theorem dX10_phasor_83 : decode cX10_phasor 83 = .ok (.lreturn, 1) := by decide +kernel
theorem dX10_phasor_84 : decode cX10_phasor 84 = .ok (.ldc2_w 192, 3) := by decide +kernel
theorem dX10_phasor_87 : decode cX10_phasor 87 = .ok (.lreturn, 1) := by decide +kernel
set_option maxRecDepth 20000 in
theorem ggX10_pass_X10_outside : GoodIn wsX10_pass wsX10_outside := goodIn_r _ [7] (by decide +kernel) (by decide +kernel)
set_option maxRecDepth 20000 in
theorem gX10_pass_X10_outside : GoodIn wsX10_pass (va_wsS RX10 57 yX10_outside wsX10_outside) := goodIn_app (goodIn_of _ (by decide +kernel)) ggX10_pass_X10_outside
set_option maxRecDepth 20000 in
theorem ggX10_pass_X6_takeSample : GoodIn wsX10_pass wsX6_takeSample := goodIn_r _ [12, 13, 14, 15, 16, 17, 18, 19, 20, 21, 22, 23, 24, 25, 26, 27, 28, 29, 30, 31, 32, 33, 34, 35, 36, 37, 38, 39, 40, 41, 42, 43, 44, 45, 46, 47, 48, 49, 11, 50, 51, 52, 53, 54, 55, 56, 57, 58, 59, 60, 61, 62, 63, 64, 65, 66, 67, 68, 69, 70, 71, 72, 73, 74, 75, 76, 77, 78, 79, 80, 81, 82, 83, 84, 85, 86, 87, 88, 89, 90, 91, 92, 93, 94, 95, 96, 97, 98, 99, 100, 101, 102, 103, 104, 105, 106, 107, 108, 109, 110, 111, 112, 113, 114, 115, 116, 117, 118, 119, 120, 121, 122, 123, 124, 125, 126, 127, 128, 129, 130, 131, 132, 133, 134, 135, 136, 137, 138, 139, 140, 141, 142, 143, 144, 145, 146, 147, 148, 149, 150, 151, 152, 153, 154, 155, 156, 157, 158, 159, 160, 161, 162, 163, 164, 165, 166, 167, 168, 169, 6, 170, 171, 172, 173, 174, 175, 176, 177, 178, 179, 180, 181, 191, 192, 193, 194, 195, 196, 197, 198, 199, 200, 201, 202, 203, 204, 205, 206, 207, 208, 209, 210, 211, 212, 213, 214, 215, 216, 217, 218, 219, 220, 221, 222, 223, 224, 225, 226, 227, 228, 229, 230, 231, 232, 233, 234, 235, 236, 237] (by decide +kernel) (by decide +kernel)
set_option maxRecDepth 20000 in
theorem gX10_pass_X6_takeSample : GoodIn wsX10_pass (wsV RX10 195 RX6 yX6_takeSample wsX6_takeSample) := goodIn_app (goodIn_of _ (by decide +kernel)) ggX10_pass_X6_takeSample
theorem dX10_pass_0 : decode cX10_pass 0 = .ok (.iload_n 1, 1) := by decide +kernel
theorem dX10_pass_1 : decode cX10_pass 1 = .ok (.iconst 1, 1) := by decide +kernel
theorem dX10_pass_2 : decode cX10_pass 2 = .ok (.sipush 5000, 3) := by decide +kernel
theorem dX10_pass_5 : decode cX10_pass 5 = .ok (.invokestatic 57, 3) := by decide +kernel
theorem dX10_pass_8 : decode cX10_pass 8 = .ok (.ifCond .eq 6, 3) := by decide +kernel
theorem dX10_pass_11 : decode cX10_pass 11 = .ok (.bipush (-2), 2) := by decide +kernel
theorem dX10_pass_13 : decode cX10_pass 13 = .ok (.ireturn, 1) := by decide +kernel
theorem dX10_pass_14 : decode cX10_pass 14 = .ok (.aload_n 0, 1) := by decide +kernel
theorem dX10_pass_15 : decode cX10_pass 15 = .ok (.getfield 10, 3) := by decide +kernel
theorem dX10_pass_18 : decode cX10_pass 18 = .ok (.getfield 139, 3) := by decide +kernel
theorem dX10_pass_21 : decode cX10_pass 21 = .ok (.ldc 194, 2) := by decide +kernel
theorem dX10_pass_23 : decode cX10_pass 23 = .ok (.iload_n 1, 1) := by decide +kernel
theorem dX10_pass_24 : decode cX10_pass 24 = .ok (.isub, 1) := by decide +kernel
theorem dX10_pass_25 : decode cX10_pass 25 = .ok (.if_icmp .le 6, 3) := by decide +kernel
theorem dX10_pass_28 : decode cX10_pass 28 = .ok (.bipush (-5), 2) := by decide +kernel
theorem dX10_pass_30 : decode cX10_pass 30 = .ok (.ireturn, 1) := by decide +kernel
theorem dX10_pass_31 : decode cX10_pass 31 = .ok (.iconst 0, 1) := by decide +kernel
theorem dX10_pass_32 : decode cX10_pass 32 = .ok (.istore_n 2, 1) := by decide +kernel
theorem dX10_pass_33 : decode cX10_pass 33 = .ok (.iload_n 2, 1) := by decide +kernel
theorem dX10_pass_34 : decode cX10_pass 34 = .ok (.iload_n 1, 1) := by decide +kernel
theorem dX10_pass_35 : decode cX10_pass 35 = .ok (.if_icmp .ge 16, 3) := by decide +kernel
theorem dX10_pass_38 : decode cX10_pass 38 = .ok (.aload_n 0, 1) := by decide +kernel
theorem dX10_pass_39 : decode cX10_pass 39 = .ok (.getfield 10, 3) := by decide +kernel
theorem dX10_pass_42 : decode cX10_pass 42 = .ok (.invokevirtual 195, 3) := by decide +kernel
theorem dX10_pass_45 : decode cX10_pass 45 = .ok (.iinc 2 1, 3) := by decide +kernel
theorem dX10_pass_48 : decode cX10_pass 48 = .ok (.goto (-15), 3) := by decide +kernel
theorem dX10_pass_51 : decode cX10_pass 51 = .ok (.aload_n 0, 1) := by decide +kernel
theorem dX10_pass_52 : decode cX10_pass 52 = .ok (.getfield 10, 3) := by decide +kernel
theorem dX10_pass_55 : decode cX10_pass 55 = .ok (.getfield 139, 3) := by decide +kernel
theorem dX10_pass_58 : decode cX10_pass 58 = .ok (.ireturn, 1) := by decide +kernel
set_option maxRecDepth 20000 in
theorem ggX10_measure_X10_asNumber : GoodIn wsX10_measure wsX10_asNumber := goodIn_r _ [22] (by decide +kernel) (by decide +kernel)
set_option maxRecDepth 20000 in
theorem gX10_measure_X10_asNumber : GoodIn wsX10_measure (va_wsS RX10 98 yX10_asNumber wsX10_asNumber) := goodIn_app (goodIn_of _ (by decide +kernel)) ggX10_measure_X10_asNumber
set_option maxRecDepth 20000 in
theorem ggX10_measure_X0_truncated : GoodIn wsX10_measure wsX0_truncated := goodIn_r _ [27, 28, 60, 61, 62, 63] (by decide +kernel) (by decide +kernel)
set_option maxRecDepth 20000 in
theorem gX10_measure_X0_truncated : GoodIn wsX10_measure (wsV RX10 221 RX0 yX0_truncated wsX0_truncated) := goodIn_app (goodIn_of _ (by decide +kernel)) ggX10_measure_X0_truncated
theorem dX10_measure_0 : decode cX10_measure 0 = .ok (.aload_n 0, 1) := by decide +kernel
theorem dX10_measure_1 : decode cX10_measure 1 = .ok (.getfield 10, 3) := by decide +kernel
theorem dX10_measure_4 : decode cX10_measure 4 = .ok (.getfield 198, 3) := by decide +kernel
theorem dX10_measure_7 : decode cX10_measure 7 = .ok (.astore_n 2, 1) := by decide +kernel
theorem dX10_measure_8 : decode cX10_measure 8 = .ok (.iload_n 1, 1) := by decide +kernel
theorem dX10_measure_9 : decode cX10_measure 9 = .ok (.tableswitch 228 0 12 #[67, 79, 91, 103, 115, 124, 133, 142, 151, 173, 195, 204, 216], 67) := by decide +kernel
theorem dX10_measure_76 : decode cX10_measure 76 = .ok (.aload_n 0, 1) := by decide +kernel
theorem dX10_measure_77 : decode cX10_measure 77 = .ok (.getfield 10, 3) := by decide +kernel
theorem dX10_measure_80 : decode cX10_measure 80 = .ok (.getfield 201, 3) := by decide +kernel
theorem dX10_measure_83 : decode cX10_measure 83 = .ok (.getfield 177, 3) := by decide +kernel
theorem dX10_measure_86 : decode cX10_measure 86 = .ok (.i2l, 1) := by decide +kernel
theorem dX10_measure_87 : decode cX10_measure 87 = .ok (.lreturn, 1) := by decide +kernel
theorem dX10_measure_88 : decode cX10_measure 88 = .ok (.aload_n 0, 1) := by decide +kernel
theorem dX10_measure_89 : decode cX10_measure 89 = .ok (.getfield 10, 3) := by decide +kernel
theorem dX10_measure_92 : decode cX10_measure 92 = .ok (.getfield 201, 3) := by decide +kernel
theorem dX10_measure_95 : decode cX10_measure 95 = .ok (.getfield 180, 3) := by decide +kernel
theorem dX10_measure_98 : decode cX10_measure 98 = .ok (.i2l, 1) := by decide +kernel
theorem dX10_measure_99 : decode cX10_measure 99 = .ok (.lreturn, 1) := by decide +kernel
theorem dX10_measure_100 : decode cX10_measure 100 = .ok (.aload_n 0, 1) := by decide +kernel
theorem dX10_measure_101 : decode cX10_measure 101 = .ok (.getfield 10, 3) := by decide +kernel
theorem dX10_measure_104 : decode cX10_measure 104 = .ok (.getfield 201, 3) := by decide +kernel
theorem dX10_measure_107 : decode cX10_measure 107 = .ok (.getfield 183, 3) := by decide +kernel
theorem dX10_measure_110 : decode cX10_measure 110 = .ok (.i2l, 1) := by decide +kernel
theorem dX10_measure_111 : decode cX10_measure 111 = .ok (.lreturn, 1) := by decide +kernel
theorem dX10_measure_112 : decode cX10_measure 112 = .ok (.aload_n 0, 1) := by decide +kernel
theorem dX10_measure_113 : decode cX10_measure 113 = .ok (.getfield 10, 3) := by decide +kernel
theorem dX10_measure_116 : decode cX10_measure 116 = .ok (.getfield 201, 3) := by decide +kernel
theorem dX10_measure_119 : decode cX10_measure 119 = .ok (.getfield 186, 3) := by decide +kernel
theorem dX10_measure_122 : decode cX10_measure 122 = .ok (.i2l, 1) := by decide +kernel
theorem dX10_measure_123 : decode cX10_measure 123 = .ok (.lreturn, 1) := by decide +kernel
theorem dX10_measure_124 : decode cX10_measure 124 = .ok (.aload_n 0, 1) := by decide +kernel
theorem dX10_measure_125 : decode cX10_measure 125 = .ok (.getfield 10, 3) := by decide +kernel
theorem dX10_measure_128 : decode cX10_measure 128 = .ok (.getfield 204, 3) := by decide +kernel
theorem dX10_measure_131 : decode cX10_measure 131 = .ok (.i2l, 1) := by decide +kernel
theorem dX10_measure_132 : decode cX10_measure 132 = .ok (.lreturn, 1) := by decide +kernel
theorem dX10_measure_133 : decode cX10_measure 133 = .ok (.aload_n 0, 1) := by decide +kernel
theorem dX10_measure_134 : decode cX10_measure 134 = .ok (.getfield 10, 3) := by decide +kernel
theorem dX10_measure_137 : decode cX10_measure 137 = .ok (.getfield 207, 3) := by decide +kernel
theorem dX10_measure_140 : decode cX10_measure 140 = .ok (.i2l, 1) := by decide +kernel
theorem dX10_measure_141 : decode cX10_measure 141 = .ok (.lreturn, 1) := by decide +kernel
theorem dX10_measure_142 : decode cX10_measure 142 = .ok (.aload_n 0, 1) := by decide +kernel
theorem dX10_measure_143 : decode cX10_measure 143 = .ok (.getfield 10, 3) := by decide +kernel
theorem dX10_measure_146 : decode cX10_measure 146 = .ok (.getfield 210, 3) := by decide +kernel
theorem dX10_measure_149 : decode cX10_measure 149 = .ok (.i2l, 1) := by decide +kernel
theorem dX10_measure_150 : decode cX10_measure 150 = .ok (.lreturn, 1) := by decide +kernel
theorem dX10_measure_151 : decode cX10_measure 151 = .ok (.aload_n 2, 1) := by decide +kernel
theorem dX10_measure_152 : decode cX10_measure 152 = .ok (.getfield 213, 3) := by decide +kernel
theorem dX10_measure_155 : decode cX10_measure 155 = .ok (.invokestatic 98, 3) := by decide +kernel
theorem dX10_measure_158 : decode cX10_measure 158 = .ok (.i2l, 1) := by decide +kernel
theorem dX10_measure_159 : decode cX10_measure 159 = .ok (.lreturn, 1) := by decide +kernel
theorem dX10_measure_160 : decode cX10_measure 160 = .ok (.aload_n 2, 1) := by decide +kernel
theorem dX10_measure_161 : decode cX10_measure 161 = .ok (.getfield 213, 3) := by decide +kernel
theorem dX10_measure_164 : decode cX10_measure 164 = .ok (.ifCond .eq 14, 3) := by decide +kernel
theorem dX10_measure_167 : decode cX10_measure 167 = .ok (.aload_n 2, 1) := by decide +kernel
theorem dX10_measure_168 : decode cX10_measure 168 = .ok (.aload_n 2, 1) := by decide +kernel
theorem dX10_measure_169 : decode cX10_measure 169 = .ok (.getfield 217, 3) := by decide +kernel
theorem dX10_measure_172 : decode cX10_measure 172 = .ok (.invokevirtual 221, 3) := by decide +kernel
theorem dX10_measure_175 : decode cX10_measure 175 = .ok (.goto 6, 3) := by decide +kernel
theorem dX10_measure_178 : decode cX10_measure 178 = .ok (.ldc2_w 225, 3) := by decide +kernel
theorem dX10_measure_181 : decode cX10_measure 181 = .ok (.lreturn, 1) := by decide +kernel
theorem dX10_measure_182 : decode cX10_measure 182 = .ok (.aload_n 2, 1) := by decide +kernel
theorem dX10_measure_183 : decode cX10_measure 183 = .ok (.getfield 213, 3) := by decide +kernel
theorem dX10_measure_186 : decode cX10_measure 186 = .ok (.ifCond .eq 14, 3) := by decide +kernel
theorem dX10_measure_189 : decode cX10_measure 189 = .ok (.aload_n 2, 1) := by decide +kernel
theorem dX10_measure_190 : decode cX10_measure 190 = .ok (.aload_n 2, 1) := by decide +kernel
theorem dX10_measure_191 : decode cX10_measure 191 = .ok (.getfield 227, 3) := by decide +kernel
theorem dX10_measure_194 : decode cX10_measure 194 = .ok (.invokevirtual 221, 3) := by decide +kernel
theorem dX10_measure_197 : decode cX10_measure 197 = .ok (.goto 6, 3) := by decide +kernel
theorem dX10_measure_200 : decode cX10_measure 200 = .ok (.ldc2_w 225, 3) := by decide +kernel
theorem dX10_measure_203 : decode cX10_measure 203 = .ok (.lreturn, 1) := by decide +kernel
theorem dX10_measure_204 : decode cX10_measure 204 = .ok (.aload_n 0, 1) := by decide +kernel
theorem dX10_measure_205 : decode cX10_measure 205 = .ok (.getfield 10, 3) := by decide +kernel
theorem dX10_measure_208 : decode cX10_measure 208 = .ok (.getfield 230, 3) := by decide +kernel
theorem dX10_measure_211 : decode cX10_measure 211 = .ok (.i2l, 1) := by decide +kernel
theorem dX10_measure_212 : decode cX10_measure 212 = .ok (.lreturn, 1) := by decide +kernel
theorem dX10_measure_213 : decode cX10_measure 213 = .ok (.aload_n 0, 1) := by decide +kernel
theorem dX10_measure_214 : decode cX10_measure 214 = .ok (.getfield 10, 3) := by decide +kernel
theorem dX10_measure_217 : decode cX10_measure 217 = .ok (.getfield 233, 3) := by decide +kernel
theorem dX10_measure_220 : decode cX10_measure 220 = .ok (.invokestatic 98, 3) := by decide +kernel
theorem dX10_measure_223 : decode cX10_measure 223 = .ok (.i2l, 1) := by decide +kernel
theorem dX10_measure_224 : decode cX10_measure 224 = .ok (.lreturn, 1) := by decide +kernel
theorem dX10_measure_225 : decode cX10_measure 225 = .ok (.aload_n 0, 1) := by decide +kernel
theorem dX10_measure_226 : decode cX10_measure 226 = .ok (.getfield 10, 3) := by decide +kernel
theorem dX10_measure_229 : decode cX10_measure 229 = .ok (.getfield 236, 3) := by decide +kernel
theorem dX10_measure_232 : decode cX10_measure 232 = .ok (.invokestatic 98, 3) := by decide +kernel
theorem dX10_measure_235 : decode cX10_measure 235 = .ok (.i2l, 1) := by decide +kernel
theorem dX10_measure_236 : decode cX10_measure 236 = .ok (.lreturn, 1) := by decide +kernel
theorem dX10_measure_237 : decode cX10_measure 237 = .ok (.ldc2_w 192, 3) := by decide +kernel
theorem dX10_measure_240 : decode cX10_measure 240 = .ok (.lreturn, 1) := by decide +kernel
set_option maxRecDepth 20000 in
theorem ggX10_state_X10_outside : GoodIn wsX10_state wsX10_outside := goodIn_r _ [14] (by decide +kernel) (by decide +kernel)
set_option maxRecDepth 20000 in
theorem gX10_state_X10_outside : GoodIn wsX10_state (va_wsS RX10 57 yX10_outside wsX10_outside) := goodIn_app (goodIn_of _ (by decide +kernel)) ggX10_state_X10_outside
set_option maxRecDepth 20000 in
theorem ggX10_state_X10_asNumber : GoodIn wsX10_state wsX10_asNumber := goodIn_r _ [17] (by decide +kernel) (by decide +kernel)
set_option maxRecDepth 20000 in
theorem gX10_state_X10_asNumber : GoodIn wsX10_state (va_wsS RX10 98 yX10_asNumber wsX10_asNumber) := goodIn_app (goodIn_of _ (by decide +kernel)) ggX10_state_X10_asNumber
theorem dX10_state_0 : decode cX10_state 0 = .ok (.iload_n 1, 1) := by decide +kernel
theorem dX10_state_1 : decode cX10_state 1 = .ok (.iconst 0, 1) := by decide +kernel
theorem dX10_state_2 : decode cX10_state 2 = .ok (.iconst 2, 1) := by decide +kernel
theorem dX10_state_3 : decode cX10_state 3 = .ok (.invokestatic 57, 3) := by decide +kernel
theorem dX10_state_6 : decode cX10_state 6 = .ok (.ifCond .eq 5, 3) := by decide +kernel
theorem dX10_state_9 : decode cX10_state 9 = .ok (.iconst (-1), 1) := by decide +kernel
theorem dX10_state_10 : decode cX10_state 10 = .ok (.ireturn, 1) := by decide +kernel
theorem dX10_state_11 : decode cX10_state 11 = .ok (.aload_n 0, 1) := by decide +kernel
theorem dX10_state_12 : decode cX10_state 12 = .ok (.getfield 10, 3) := by decide +kernel
theorem dX10_state_15 : decode cX10_state 15 = .ok (.getfield 111, 3) := by decide +kernel
theorem dX10_state_18 : decode cX10_state 18 = .ok (.iload_n 1, 1) := by decide +kernel
theorem dX10_state_19 : decode cX10_state 19 = .ok (.aaload, 1) := by decide +kernel
theorem dX10_state_20 : decode cX10_state 20 = .ok (.astore_n 3, 1) := by decide +kernel
theorem dX10_state_21 : decode cX10_state 21 = .ok (.iload_n 2, 1) := by decide +kernel
theorem dX10_state_22 : decode cX10_state 22 = .ok (.tableswitch 71 0 4 #[34, 42, 47, 61, 66], 34) := by decide +kernel
theorem dX10_state_56 : decode cX10_state 56 = .ok (.aload_n 3, 1) := by decide +kernel
