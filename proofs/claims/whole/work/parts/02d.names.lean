theorem dX11_phasor_26 : decode cX11_phasor 26 = .ok (.lreturn, 1) := by decide +kernel
theorem dX11_goOnRamp_0 : decode cX11_goOnRamp 0 = .ok (.aload_n 0, 1) := by decide +kernel
theorem dX11_goOnRamp_1 : decode cX11_goOnRamp 1 = .ok (.getfield 7, 3) := by decide +kernel
theorem dX11_goOnRamp_4 : decode cX11_goOnRamp 4 = .ok (.iconst 4, 1) := by decide +kernel
theorem dX11_goOnRamp_5 : decode cX11_goOnRamp 5 = .ok (.laload, 1) := by decide +kernel
theorem dX11_goOnRamp_6 : decode cX11_goOnRamp 6 = .ok (.lconst 0, 1) := by decide +kernel
theorem dX11_goOnRamp_7 : decode cX11_goOnRamp 7 = .ok (.lcmp, 1) := by decide +kernel
theorem dX11_goOnRamp_8 : decode cX11_goOnRamp 8 = .ok (.ifCond .le 88, 3) := by decide +kernel
theorem dX11_goOnRamp_11 : decode cX11_goOnRamp 11 = .ok (.aload_n 0, 1) := by decide +kernel
theorem dX11_goOnRamp_12 : decode cX11_goOnRamp 12 = .ok (.getfield 7, 3) := by decide +kernel
theorem dX11_goOnRamp_15 : decode cX11_goOnRamp 15 = .ok (.iconst 5, 1) := by decide +kernel
theorem dX11_goOnRamp_16 : decode cX11_goOnRamp 16 = .ok (.laload, 1) := by decide +kernel
theorem dX11_goOnRamp_17 : decode cX11_goOnRamp 17 = .ok (.aload_n 0, 1) := by decide +kernel
theorem dX11_goOnRamp_18 : decode cX11_goOnRamp 18 = .ok (.getfield 7, 3) := by decide +kernel
theorem dX11_goOnRamp_21 : decode cX11_goOnRamp 21 = .ok (.iconst 4, 1) := by decide +kernel
theorem dX11_goOnRamp_22 : decode cX11_goOnRamp 22 = .ok (.laload, 1) := by decide +kernel
theorem dX11_goOnRamp_23 : decode cX11_goOnRamp 23 = .ok (.lsub, 1) := by decide +kernel
theorem dX11_goOnRamp_24 : decode cX11_goOnRamp 24 = .ok (.lconst 1, 1) := by decide +kernel
theorem dX11_goOnRamp_25 : decode cX11_goOnRamp 25 = .ok (.ladd, 1) := by decide +kernel
theorem dX11_goOnRamp_26 : decode cX11_goOnRamp 26 = .ok (.lstore_n 1, 1) := by decide +kernel
theorem dX11_goOnRamp_27 : decode cX11_goOnRamp 27 = .ok (.iconst 0, 1) := by decide +kernel
theorem dX11_goOnRamp_28 : decode cX11_goOnRamp 28 = .ok (.istore_n 3, 1) := by decide +kernel
theorem dX11_goOnRamp_29 : decode cX11_goOnRamp 29 = .ok (.iload_n 3, 1) := by decide +kernel
theorem dX11_goOnRamp_30 : decode cX11_goOnRamp 30 = .ok (.iconst 4, 1) := by decide +kernel
theorem dX11_goOnRamp_31 : decode cX11_goOnRamp 31 = .ok (.if_icmp .ge 55, 3) := by decide +kernel
theorem dX11_goOnRamp_34 : decode cX11_goOnRamp 34 = .ok (.aload_n 0, 1) := by decide +kernel
theorem dX11_goOnRamp_35 : decode cX11_goOnRamp 35 = .ok (.getfield 7, 3) := by decide +kernel
theorem dX11_goOnRamp_38 : decode cX11_goOnRamp 38 = .ok (.iconst 0, 1) := by decide +kernel
theorem dX11_goOnRamp_39 : decode cX11_goOnRamp 39 = .ok (.iload_n 3, 1) := by decide +kernel
theorem dX11_goOnRamp_40 : decode cX11_goOnRamp 40 = .ok (.iadd, 1) := by decide +kernel
theorem dX11_goOnRamp_41 : decode cX11_goOnRamp 41 = .ok (.aload_n 0, 1) := by decide +kernel
theorem dX11_goOnRamp_42 : decode cX11_goOnRamp 42 = .ok (.getfield 7, 3) := by decide +kernel
theorem dX11_goOnRamp_45 : decode cX11_goOnRamp 45 = .ok (.bipush 6, 2) := by decide +kernel
theorem dX11_goOnRamp_47 : decode cX11_goOnRamp 47 = .ok (.iload_n 3, 1) := by decide +kernel
theorem dX11_goOnRamp_48 : decode cX11_goOnRamp 48 = .ok (.iadd, 1) := by decide +kernel
theorem dX11_goOnRamp_49 : decode cX11_goOnRamp 49 = .ok (.laload, 1) := by decide +kernel
theorem dX11_goOnRamp_50 : decode cX11_goOnRamp 50 = .ok (.aload_n 0, 1) := by decide +kernel
theorem dX11_goOnRamp_51 : decode cX11_goOnRamp 51 = .ok (.getfield 7, 3) := by decide +kernel
theorem dX11_goOnRamp_54 : decode cX11_goOnRamp 54 = .ok (.bipush 10, 2) := by decide +kernel
theorem dX11_goOnRamp_56 : decode cX11_goOnRamp 56 = .ok (.iload_n 3, 1) := by decide +kernel
theorem dX11_goOnRamp_57 : decode cX11_goOnRamp 57 = .ok (.iadd, 1) := by decide +kernel
theorem dX11_goOnRamp_58 : decode cX11_goOnRamp 58 = .ok (.laload, 1) := by decide +kernel
theorem dX11_goOnRamp_59 : decode cX11_goOnRamp 59 = .ok (.aload_n 0, 1) := by decide +kernel
theorem dX11_goOnRamp_60 : decode cX11_goOnRamp 60 = .ok (.getfield 7, 3) := by decide +kernel
theorem dX11_goOnRamp_63 : decode cX11_goOnRamp 63 = .ok (.bipush 6, 2) := by decide +kernel
theorem dX11_goOnRamp_65 : decode cX11_goOnRamp 65 = .ok (.iload_n 3, 1) := by decide +kernel
theorem dX11_goOnRamp_66 : decode cX11_goOnRamp 66 = .ok (.iadd, 1) := by decide +kernel
theorem dX11_goOnRamp_67 : decode cX11_goOnRamp 67 = .ok (.laload, 1) := by decide +kernel
theorem dX11_goOnRamp_68 : decode cX11_goOnRamp 68 = .ok (.lsub, 1) := by decide +kernel
theorem dX11_goOnRamp_69 : decode cX11_goOnRamp 69 = .ok (.lload_n 1, 1) := by decide +kernel
theorem dX11_goOnRamp_70 : decode cX11_goOnRamp 70 = .ok (.lmul, 1) := by decide +kernel
theorem dX11_goOnRamp_71 : decode cX11_goOnRamp 71 = .ok (.aload_n 0, 1) := by decide +kernel
theorem dX11_goOnRamp_72 : decode cX11_goOnRamp 72 = .ok (.getfield 7, 3) := by decide +kernel
theorem dX11_goOnRamp_75 : decode cX11_goOnRamp 75 = .ok (.iconst 5, 1) := by decide +kernel
theorem dX11_goOnRamp_76 : decode cX11_goOnRamp 76 = .ok (.laload, 1) := by decide +kernel
theorem dX11_goOnRamp_77 : decode cX11_goOnRamp 77 = .ok (.ldiv, 1) := by decide +kernel
theorem dX11_goOnRamp_78 : decode cX11_goOnRamp 78 = .ok (.ladd, 1) := by decide +kernel
theorem dX11_goOnRamp_79 : decode cX11_goOnRamp 79 = .ok (.lastore, 1) := by decide +kernel
theorem dX11_goOnRamp_80 : decode cX11_goOnRamp 80 = .ok (.iinc 3 1, 3) := by decide +kernel
theorem dX11_goOnRamp_83 : decode cX11_goOnRamp 83 = .ok (.goto (-54), 3) := by decide +kernel
theorem dX11_goOnRamp_86 : decode cX11_goOnRamp 86 = .ok (.aload_n 0, 1) := by decide +kernel
theorem dX11_goOnRamp_87 : decode cX11_goOnRamp 87 = .ok (.getfield 7, 3) := by decide +kernel
theorem dX11_goOnRamp_90 : decode cX11_goOnRamp 90 = .ok (.iconst 4, 1) := by decide +kernel
theorem dX11_goOnRamp_91 : decode cX11_goOnRamp 91 = .ok (.dup2, 1) := by decide +kernel
theorem dX11_goOnRamp_92 : decode cX11_goOnRamp 92 = .ok (.laload, 1) := by decide +kernel
theorem dX11_goOnRamp_93 : decode cX11_goOnRamp 93 = .ok (.lconst 1, 1) := by decide +kernel
theorem dX11_goOnRamp_94 : decode cX11_goOnRamp 94 = .ok (.lsub, 1) := by decide +kernel
theorem dX11_goOnRamp_95 : decode cX11_goOnRamp 95 = .ok (.lastore, 1) := by decide +kernel
theorem dX11_goOnRamp_96 : decode cX11_goOnRamp 96 = .ok (.return_, 1) := by decide +kernel
set_option maxRecDepth 20000 in
theorem ggX11_takeSample_X11_sine : GoodIn wsX11_takeSample wsX11_sine := goodIn_r _ [9, 3, 10, 2, 11, 12, 13, 14, 15, 16, 17, 18, 19, 20, 21, 22, 23, 24, 25, 26, 27, 28, 29, 30] (by decide +kernel) (by decide +kernel)
set_option maxRecDepth 20000 in
theorem gX11_takeSample_X11_sine : GoodIn wsX11_takeSample (wsV RX11 172 RX11 yX11_sine wsX11_sine) := goodIn_app (goodIn_of _ (by decide +kernel)) ggX11_takeSample_X11_sine
theorem dX11_takeSample_0 : decode cX11_takeSample 0 = .ok (.aload_n 0, 1) := by decide +kernel
theorem dX11_takeSample_1 : decode cX11_takeSample 1 = .ok (.getfield 7, 3) := by decide +kernel
theorem dX11_takeSample_4 : decode cX11_takeSample 4 = .ok (.bipush 35, 2) := by decide +kernel
theorem dX11_takeSample_6 : decode cX11_takeSample 6 = .ok (.laload, 1) := by decide +kernel
theorem dX11_takeSample_7 : decode cX11_takeSample 7 = .ok (.ldc2_w 52, 3) := by decide +kernel
theorem dX11_takeSample_10 : decode cX11_takeSample 10 = .ok (.lrem, 1) := by decide +kernel
theorem dX11_takeSample_11 : decode cX11_takeSample 11 = .ok (.l2i, 1) := by decide +kernel
theorem dX11_takeSample_12 : decode cX11_takeSample 12 = .ok (.istore_n 3, 1) := by decide +kernel
theorem dX11_takeSample_13 : decode cX11_takeSample 13 = .ok (.aload_n 0, 1) := by decide +kernel
theorem dX11_takeSample_14 : decode cX11_takeSample 14 = .ok (.getfield 7, 3) := by decide +kernel
theorem dX11_takeSample_17 : decode cX11_takeSample 17 = .ok (.iload_n 1, 1) := by decide +kernel
theorem dX11_takeSample_18 : decode cX11_takeSample 18 = .ok (.iload_n 3, 1) := by decide +kernel
theorem dX11_takeSample_19 : decode cX11_takeSample 19 = .ok (.iadd, 1) := by decide +kernel
theorem dX11_takeSample_20 : decode cX11_takeSample 20 = .ok (.aload_n 0, 1) := by decide +kernel
theorem dX11_takeSample_21 : decode cX11_takeSample 21 = .ok (.getfield 7, 3) := by decide +kernel
theorem dX11_takeSample_24 : decode cX11_takeSample 24 = .ok (.iload_n 2, 1) := by decide +kernel
theorem dX11_takeSample_25 : decode cX11_takeSample 25 = .ok (.laload, 1) := by decide +kernel
theorem dX11_takeSample_26 : decode cX11_takeSample 26 = .ok (.aload_n 0, 1) := by decide +kernel
theorem dX11_takeSample_27 : decode cX11_takeSample 27 = .ok (.getfield 27, 3) := by decide +kernel
theorem dX11_takeSample_30 : decode cX11_takeSample 30 = .ok (.iload_n 3, 1) := by decide +kernel
theorem dX11_takeSample_31 : decode cX11_takeSample 31 = .ok (.iaload, 1) := by decide +kernel
theorem dX11_takeSample_32 : decode cX11_takeSample 32 = .ok (.i2l, 1) := by decide +kernel
theorem dX11_takeSample_33 : decode cX11_takeSample 33 = .ok (.lmul, 1) := by decide +kernel
theorem dX11_takeSample_34 : decode cX11_takeSample 34 = .ok (.aload_n 0, 1) := by decide +kernel
theorem dX11_takeSample_35 : decode cX11_takeSample 35 = .ok (.getfield 7, 3) := by decide +kernel
theorem dX11_takeSample_38 : decode cX11_takeSample 38 = .ok (.iload_n 2, 1) := by decide +kernel
theorem dX11_takeSample_39 : decode cX11_takeSample 39 = .ok (.iconst 1, 1) := by decide +kernel
theorem dX11_takeSample_40 : decode cX11_takeSample 40 = .ok (.iadd, 1) := by decide +kernel
theorem dX11_takeSample_41 : decode cX11_takeSample 41 = .ok (.laload, 1) := by decide +kernel
theorem dX11_takeSample_42 : decode cX11_takeSample 42 = .ok (.aload_n 0, 1) := by decide +kernel
theorem dX11_takeSample_43 : decode cX11_takeSample 43 = .ok (.iload_n 3, 1) := by decide +kernel
theorem dX11_takeSample_44 : decode cX11_takeSample 44 = .ok (.i2l, 1) := by decide +kernel
theorem dX11_takeSample_45 : decode cX11_takeSample 45 = .ok (.invokevirtual 172, 3) := by decide +kernel
theorem dX11_takeSample_48 : decode cX11_takeSample 48 = .ok (.lmul, 1) := by decide +kernel
theorem dX11_takeSample_49 : decode cX11_takeSample 49 = .ok (.lsub, 1) := by decide +kernel
theorem dX11_takeSample_50 : decode cX11_takeSample 50 = .ok (.ldc2_w 175, 3) := by decide +kernel
theorem dX11_takeSample_53 : decode cX11_takeSample 53 = .ok (.ldiv, 1) := by decide +kernel
theorem dX11_takeSample_54 : decode cX11_takeSample 54 = .ok (.lastore, 1) := by decide +kernel
theorem dX11_takeSample_55 : decode cX11_takeSample 55 = .ok (.return_, 1) := by decide +kernel
set_option maxRecDepth 20000 in
theorem ggX11_estimate_X11_sine : GoodIn wsX11_estimate wsX11_sine := goodIn_r _ [8, 2, 9, 10, 11, 12, 13, 14, 15, 16, 17, 18, 19, 20, 21, 22, 23, 24, 25, 26, 27, 28, 29, 30] (by decide +kernel) (by decide +kernel)
set_option maxRecDepth 20000 in
theorem gX11_estimate_X11_sine : GoodIn wsX11_estimate (wsV RX11 172 RX11 yX11_sine wsX11_sine) := goodIn_app (goodIn_of _ (by decide +kernel)) ggX11_estimate_X11_sine
theorem dX11_estimate_0 : decode cX11_estimate 0 = .ok (.lconst 0, 1) := by decide +kernel
theorem dX11_estimate_1 : decode cX11_estimate 1 = .ok (.lstore_n 3, 1) := by decide +kernel
theorem dX11_estimate_2 : decode cX11_estimate 2 = .ok (.lconst 0, 1) := by decide +kernel
theorem dX11_estimate_3 : decode cX11_estimate 3 = .ok (.lstore 5, 2) := by decide +kernel
theorem dX11_estimate_5 : decode cX11_estimate 5 = .ok (.iconst 0, 1) := by decide +kernel
theorem dX11_estimate_6 : decode cX11_estimate 6 = .ok (.istore 7, 2) := by decide +kernel
theorem dX11_estimate_8 : decode cX11_estimate 8 = .ok (.iload 7, 2) := by decide +kernel
theorem dX11_estimate_10 : decode cX11_estimate 10 = .ok (.bipush 24, 2) := by decide +kernel
theorem dX11_estimate_12 : decode cX11_estimate 12 = .ok (.if_icmp .ge 52, 3) := by decide +kernel
theorem dX11_estimate_15 : decode cX11_estimate 15 = .ok (.lload_n 3, 1) := by decide +kernel
theorem dX11_estimate_16 : decode cX11_estimate 16 = .ok (.aload_n 0, 1) := by decide +kernel
theorem dX11_estimate_17 : decode cX11_estimate 17 = .ok (.getfield 7, 3) := by decide +kernel
theorem dX11_estimate_20 : decode cX11_estimate 20 = .ok (.iload_n 1, 1) := by decide +kernel
theorem dX11_estimate_21 : decode cX11_estimate 21 = .ok (.iload 7, 2) := by decide +kernel
theorem dX11_estimate_23 : decode cX11_estimate 23 = .ok (.iadd, 1) := by decide +kernel
theorem dX11_estimate_24 : decode cX11_estimate 24 = .ok (.laload, 1) := by decide +kernel
theorem dX11_estimate_25 : decode cX11_estimate 25 = .ok (.aload_n 0, 1) := by decide +kernel
theorem dX11_estimate_26 : decode cX11_estimate 26 = .ok (.getfield 27, 3) := by decide +kernel
theorem dX11_estimate_29 : decode cX11_estimate 29 = .ok (.iload 7, 2) := by decide +kernel
theorem dX11_estimate_31 : decode cX11_estimate 31 = .ok (.iaload, 1) := by decide +kernel
theorem dX11_estimate_32 : decode cX11_estimate 32 = .ok (.i2l, 1) := by decide +kernel
theorem dX11_estimate_33 : decode cX11_estimate 33 = .ok (.lmul, 1) := by decide +kernel
theorem dX11_estimate_34 : decode cX11_estimate 34 = .ok (.ladd, 1) := by decide +kernel
theorem dX11_estimate_35 : decode cX11_estimate 35 = .ok (.lstore_n 3, 1) := by decide +kernel
theorem dX11_estimate_36 : decode cX11_estimate 36 = .ok (.lload 5, 2) := by decide +kernel
theorem dX11_estimate_38 : decode cX11_estimate 38 = .ok (.aload_n 0, 1) := by decide +kernel
theorem dX11_estimate_39 : decode cX11_estimate 39 = .ok (.getfield 7, 3) := by decide +kernel
theorem dX11_estimate_42 : decode cX11_estimate 42 = .ok (.iload_n 1, 1) := by decide +kernel
theorem dX11_estimate_43 : decode cX11_estimate 43 = .ok (.iload 7, 2) := by decide +kernel
theorem dX11_estimate_45 : decode cX11_estimate 45 = .ok (.iadd, 1) := by decide +kernel
theorem dX11_estimate_46 : decode cX11_estimate 46 = .ok (.laload, 1) := by decide +kernel
theorem dX11_estimate_47 : decode cX11_estimate 47 = .ok (.aload_n 0, 1) := by decide +kernel
theorem dX11_estimate_48 : decode cX11_estimate 48 = .ok (.iload 7, 2) := by decide +kernel
theorem dX11_estimate_50 : decode cX11_estimate 50 = .ok (.i2l, 1) := by decide +kernel
theorem dX11_estimate_51 : decode cX11_estimate 51 = .ok (.invokevirtual 172, 3) := by decide +kernel
theorem dX11_estimate_54 : decode cX11_estimate 54 = .ok (.lmul, 1) := by decide +kernel
theorem dX11_estimate_55 : decode cX11_estimate 55 = .ok (.lsub, 1) := by decide +kernel
theorem dX11_estimate_56 : decode cX11_estimate 56 = .ok (.lstore 5, 2) := by decide +kernel
theorem dX11_estimate_58 : decode cX11_estimate 58 = .ok (.iinc 7 1, 3) := by decide +kernel
theorem dX11_estimate_61 : decode cX11_estimate 61 = .ok (.goto (-53), 3) := by decide +kernel
theorem dX11_estimate_64 : decode cX11_estimate 64 = .ok (.aload_n 0, 1) := by decide +kernel
theorem dX11_estimate_65 : decode cX11_estimate 65 = .ok (.getfield 7, 3) := by decide +kernel
theorem dX11_estimate_68 : decode cX11_estimate 68 = .ok (.iload_n 2, 1) := by decide +kernel
theorem dX11_estimate_69 : decode cX11_estimate 69 = .ok (.lload_n 3, 1) := by decide +kernel
theorem dX11_estimate_70 : decode cX11_estimate 70 = .ok (.ldc2_w 177, 3) := by decide +kernel
theorem dX11_estimate_73 : decode cX11_estimate 73 = .ok (.ldiv, 1) := by decide +kernel
theorem dX11_estimate_74 : decode cX11_estimate 74 = .ok (.lastore, 1) := by decide +kernel
theorem dX11_estimate_75 : decode cX11_estimate 75 = .ok (.aload_n 0, 1) := by decide +kernel
theorem dX11_estimate_76 : decode cX11_estimate 76 = .ok (.getfield 7, 3) := by decide +kernel
theorem dX11_estimate_79 : decode cX11_estimate 79 = .ok (.iload_n 2, 1) := by decide +kernel
theorem dX11_estimate_80 : decode cX11_estimate 80 = .ok (.iconst 1, 1) := by decide +kernel
theorem dX11_estimate_81 : decode cX11_estimate 81 = .ok (.iadd, 1) := by decide +kernel
theorem dX11_estimate_82 : decode cX11_estimate 82 = .ok (.lload 5, 2) := by decide +kernel
theorem dX11_estimate_84 : decode cX11_estimate 84 = .ok (.ldc2_w 177, 3) := by decide +kernel
theorem dX11_estimate_87 : decode cX11_estimate 87 = .ok (.ldiv, 1) := by decide +kernel
theorem dX11_estimate_88 : decode cX11_estimate 88 = .ok (.lastore, 1) := by decide +kernel
theorem dX11_estimate_89 : decode cX11_estimate 89 = .ok (.return_, 1) := by decide +kernel
theorem dX11_remember_0 : decode cX11_remember 0 = .ok (.aload_n 0, 1) := by decide +kernel
theorem dX11_remember_1 : decode cX11_remember 1 = .ok (.getfield 7, 3) := by decide +kernel
theorem dX11_remember_4 : decode cX11_remember 4 = .ok (.bipush 84, 2) := by decide +kernel
theorem dX11_remember_6 : decode cX11_remember 6 = .ok (.laload, 1) := by decide +kernel
theorem dX11_remember_7 : decode cX11_remember 7 = .ok (.lstore_n 1, 1) := by decide +kernel
theorem dX11_remember_8 : decode cX11_remember 8 = .ok (.aload_n 0, 1) := by decide +kernel
theorem dX11_remember_9 : decode cX11_remember 9 = .ok (.getfield 7, 3) := by decide +kernel
theorem dX11_remember_12 : decode cX11_remember 12 = .ok (.bipush 85, 2) := by decide +kernel
theorem dX11_remember_14 : decode cX11_remember 14 = .ok (.laload, 1) := by decide +kernel
theorem dX11_remember_15 : decode cX11_remember 15 = .ok (.lstore_n 3, 1) := by decide +kernel
theorem dX11_remember_16 : decode cX11_remember 16 = .ok (.lload_n 1, 1) := by decide +kernel
theorem dX11_remember_17 : decode cX11_remember 17 = .ok (.lload_n 1, 1) := by decide +kernel
theorem dX11_remember_18 : decode cX11_remember 18 = .ok (.lmul, 1) := by decide +kernel
theorem dX11_remember_19 : decode cX11_remember 19 = .ok (.lload_n 3, 1) := by decide +kernel
theorem dX11_remember_20 : decode cX11_remember 20 = .ok (.lload_n 3, 1) := by decide +kernel
theorem dX11_remember_21 : decode cX11_remember 21 = .ok (.lmul, 1) := by decide +kernel
theorem dX11_remember_22 : decode cX11_remember 22 = .ok (.ladd, 1) := by decide +kernel
theorem dX11_remember_23 : decode cX11_remember 23 = .ok (.aload_n 0, 1) := by decide +kernel
theorem dX11_remember_24 : decode cX11_remember 24 = .ok (.getfield 7, 3) := by decide +kernel
theorem dX11_remember_27 : decode cX11_remember 27 = .ok (.bipush 22, 2) := by decide +kernel
theorem dX11_remember_29 : decode cX11_remember 29 = .ok (.laload, 1) := by decide +kernel
theorem dX11_remember_30 : decode cX11_remember 30 = .ok (.aload_n 0, 1) := by decide +kernel
theorem dX11_remember_31 : decode cX11_remember 31 = .ok (.getfield 7, 3) := by decide +kernel
theorem dX11_remember_34 : decode cX11_remember 34 = .ok (.bipush 22, 2) := by decide +kernel
theorem dX11_remember_36 : decode cX11_remember 36 = .ok (.laload, 1) := by decide +kernel
theorem dX11_remember_37 : decode cX11_remember 37 = .ok (.lmul, 1) := by decide +kernel
theorem dX11_remember_38 : decode cX11_remember 38 = .ok (.lcmp, 1) := by decide +kernel
theorem dX11_remember_39 : decode cX11_remember 39 = .ok (.ifCond .lt 30, 3) := by decide +kernel
theorem dX11_remember_42 : decode cX11_remember 42 = .ok (.aload_n 0, 1) := by decide +kernel
theorem dX11_remember_43 : decode cX11_remember 43 = .ok (.getfield 7, 3) := by decide +kernel
theorem dX11_remember_46 : decode cX11_remember 46 = .ok (.bipush 88, 2) := by decide +kernel
theorem dX11_remember_48 : decode cX11_remember 48 = .ok (.lload_n 1, 1) := by decide +kernel
theorem dX11_remember_49 : decode cX11_remember 49 = .ok (.lastore, 1) := by decide +kernel
theorem dX11_remember_50 : decode cX11_remember 50 = .ok (.aload_n 0, 1) := by decide +kernel
theorem dX11_remember_51 : decode cX11_remember 51 = .ok (.getfield 7, 3) := by decide +kernel
theorem dX11_remember_54 : decode cX11_remember 54 = .ok (.bipush 89, 2) := by decide +kernel
theorem dX11_remember_56 : decode cX11_remember 56 = .ok (.lload_n 3, 1) := by decide +kernel
theorem dX11_remember_57 : decode cX11_remember 57 = .ok (.lastore, 1) := by decide +kernel
theorem dX11_remember_58 : decode cX11_remember 58 = .ok (.aload_n 0, 1) := by decide +kernel
theorem dX11_remember_59 : decode cX11_remember 59 = .ok (.getfield 7, 3) := by decide +kernel
theorem dX11_remember_62 : decode cX11_remember 62 = .ok (.bipush 90, 2) := by decide +kernel
theorem dX11_remember_64 : decode cX11_remember 64 = .ok (.lconst 0, 1) := by decide +kernel
theorem dX11_remember_65 : decode cX11_remember 65 = .ok (.lastore, 1) := by decide +kernel
theorem dX11_remember_66 : decode cX11_remember 66 = .ok (.goto 14, 3) := by decide +kernel
theorem dX11_remember_69 : decode cX11_remember 69 = .ok (.aload_n 0, 1) := by decide +kernel
theorem dX11_remember_70 : decode cX11_remember 70 = .ok (.getfield 7, 3) := by decide +kernel
theorem dX11_remember_73 : decode cX11_remember 73 = .ok (.bipush 90, 2) := by decide +kernel
theorem dX11_remember_75 : decode cX11_remember 75 = .ok (.dup2, 1) := by decide +kernel
theorem dX11_remember_76 : decode cX11_remember 76 = .ok (.laload, 1) := by decide +kernel
theorem dX11_remember_77 : decode cX11_remember 77 = .ok (.lconst 1, 1) := by decide +kernel
theorem dX11_remember_78 : decode cX11_remember 78 = .ok (.ladd, 1) := by decide +kernel
theorem dX11_remember_79 : decode cX11_remember 79 = .ok (.lastore, 1) := by decide +kernel
theorem dX11_remember_80 : decode cX11_remember 80 = .ok (.return_, 1) := by decide +kernel
theorem dX11_note_0 : decode cX11_note 0 = .ok (.bipush 105, 2) := by decide +kernel
theorem dX11_note_2 : decode cX11_note 2 = .ok (.iconst 2, 1) := by decide +kernel
theorem dX11_note_3 : decode cX11_note 3 = .ok (.aload_n 0, 1) := by decide +kernel
theorem dX11_note_4 : decode cX11_note 4 = .ok (.getfield 7, 3) := by decide +kernel
theorem dX11_note_7 : decode cX11_note 7 = .ok (.bipush 104, 2) := by decide +kernel
theorem dX11_note_9 : decode cX11_note 9 = .ok (.laload, 1) := by decide +kernel
theorem dX11_note_10 : decode cX11_note 10 = .ok (.ldc2_w 179, 3) := by decide +kernel
theorem dX11_note_13 : decode cX11_note 13 = .ok (.lrem, 1) := by decide +kernel
theorem dX11_note_14 : decode cX11_note 14 = .ok (.l2i, 1) := by decide +kernel
theorem dX11_note_15 : decode cX11_note 15 = .ok (.imul, 1) := by decide +kernel
theorem dX11_note_16 : decode cX11_note 16 = .ok (.iadd, 1) := by decide +kernel
theorem dX11_note_17 : decode cX11_note 17 = .ok (.istore_n 2, 1) := by decide +kernel
theorem dX11_note_18 : decode cX11_note 18 = .ok (.aload_n 0, 1) := by decide +kernel
theorem dX11_note_19 : decode cX11_note 19 = .ok (.getfield 7, 3) := by decide +kernel
theorem dX11_note_22 : decode cX11_note 22 = .ok (.iload_n 2, 1) := by decide +kernel
theorem dX11_note_23 : decode cX11_note 23 = .ok (.aload_n 0, 1) := by decide +kernel
theorem dX11_note_24 : decode cX11_note 24 = .ok (.getfield 7, 3) := by decide +kernel
theorem dX11_note_27 : decode cX11_note 27 = .ok (.bipush 35, 2) := by decide +kernel
theorem dX11_note_29 : decode cX11_note 29 = .ok (.laload, 1) := by decide +kernel
theorem dX11_note_30 : decode cX11_note 30 = .ok (.lastore, 1) := by decide +kernel
theorem dX11_note_31 : decode cX11_note 31 = .ok (.aload_n 0, 1) := by decide +kernel
theorem dX11_note_32 : decode cX11_note 32 = .ok (.getfield 7, 3) := by decide +kernel
theorem dX11_note_35 : decode cX11_note 35 = .ok (.iload_n 2, 1) := by decide +kernel
theorem dX11_note_36 : decode cX11_note 36 = .ok (.iconst 1, 1) := by decide +kernel
theorem dX11_note_37 : decode cX11_note 37 = .ok (.iadd, 1) := by decide +kernel
theorem dX11_note_38 : decode cX11_note 38 = .ok (.iload_n 1, 1) := by decide +kernel
theorem dX11_note_39 : decode cX11_note 39 = .ok (.i2l, 1) := by decide +kernel
theorem dX11_note_40 : decode cX11_note 40 = .ok (.lastore, 1) := by decide +kernel
theorem dX11_note_41 : decode cX11_note 41 = .ok (.aload_n 0, 1) := by decide +kernel
theorem dX11_note_42 : decode cX11_note 42 = .ok (.getfield 7, 3) := by decide +kernel
theorem dX11_note_45 : decode cX11_note 45 = .ok (.bipush 104, 2) := by decide +kernel
theorem dX11_note_47 : decode cX11_note 47 = .ok (.dup2, 1) := by decide +kernel
theorem dX11_note_48 : decode cX11_note 48 = .ok (.laload, 1) := by decide +kernel
theorem dX11_note_49 : decode cX11_note 49 = .ok (.lconst 1, 1) := by decide +kernel
theorem dX11_note_50 : decode cX11_note 50 = .ok (.ladd, 1) := by decide +kernel
theorem dX11_note_51 : decode cX11_note 51 = .ok (.lastore, 1) := by decide +kernel
theorem dX11_note_52 : decode cX11_note 52 = .ok (.return_, 1) := by decide +kernel
set_option maxRecDepth 20000 in
theorem ggX11_endSwing_X11_note : GoodIn wsX11_endSwing wsX11_note := goodIn_r _ [6, 1, 7, 8, 9, 10, 11, 12, 13, 14, 15, 16, 17, 18, 19, 20, 21, 22, 23, 24, 25, 26, 27] (by decide +kernel) (by decide +kernel)
set_option maxRecDepth 20000 in
theorem gX11_endSwing_X11_note : GoodIn wsX11_endSwing (wsV RX11 181 RX11 yX11_note wsX11_note) := goodIn_app (goodIn_of _ (by decide +kernel)) ggX11_endSwing_X11_note
theorem dX11_endSwing_0 : decode cX11_endSwing 0 = .ok (.aload_n 0, 1) := by decide +kernel
theorem dX11_endSwing_1 : decode cX11_endSwing 1 = .ok (.getfield 7, 3) := by decide +kernel
theorem dX11_endSwing_4 : decode cX11_endSwing 4 = .ok (.bipush 94, 2) := by decide +kernel
theorem dX11_endSwing_6 : decode cX11_endSwing 6 = .ok (.lconst 0, 1) := by decide +kernel
theorem dX11_endSwing_7 : decode cX11_endSwing 7 = .ok (.lastore, 1) := by decide +kernel
theorem dX11_endSwing_8 : decode cX11_endSwing 8 = .ok (.aload_n 0, 1) := by decide +kernel
theorem dX11_endSwing_9 : decode cX11_endSwing 9 = .ok (.getfield 7, 3) := by decide +kernel
theorem dX11_endSwing_12 : decode cX11_endSwing 12 = .ok (.bipush 95, 2) := by decide +kernel
theorem dX11_endSwing_14 : decode cX11_endSwing 14 = .ok (.laload, 1) := by decide +kernel
theorem dX11_endSwing_15 : decode cX11_endSwing 15 = .ok (.lconst 1, 1) := by decide +kernel
theorem dX11_endSwing_16 : decode cX11_endSwing 16 = .ok (.lcmp, 1) := by decide +kernel
theorem dX11_endSwing_17 : decode cX11_endSwing 17 = .ok (.ifCond .ne 17, 3) := by decide +kernel
theorem dX11_endSwing_20 : decode cX11_endSwing 20 = .ok (.aload_n 0, 1) := by decide +kernel
theorem dX11_endSwing_21 : decode cX11_endSwing 21 = .ok (.getfield 7, 3) := by decide +kernel
theorem dX11_endSwing_24 : decode cX11_endSwing 24 = .ok (.bipush 95, 2) := by decide +kernel
theorem dX11_endSwing_26 : decode cX11_endSwing 26 = .ok (.lconst 0, 1) := by decide +kernel
theorem dX11_endSwing_27 : decode cX11_endSwing 27 = .ok (.lastore, 1) := by decide +kernel
theorem dX11_endSwing_28 : decode cX11_endSwing 28 = .ok (.aload_n 0, 1) := by decide +kernel
theorem dX11_endSwing_29 : decode cX11_endSwing 29 = .ok (.bipush 41, 2) := by decide +kernel
theorem dX11_endSwing_31 : decode cX11_endSwing 31 = .ok (.invokevirtual 181, 3) := by decide +kernel
theorem dX11_endSwing_34 : decode cX11_endSwing 34 = .ok (.return_, 1) := by decide +kernel
theorem dX11_laysPoint_0 : decode cX11_laysPoint 0 = .ok (.aload_n 0, 1) := by decide +kernel
theorem dX11_laysPoint_1 : decode cX11_laysPoint 1 = .ok (.ldc2_w 40, 3) := by decide +kernel
theorem dX11_laysPoint_4 : decode cX11_laysPoint 4 = .ok (.lload_n 1, 1) := by decide +kernel
theorem dX11_laysPoint_5 : decode cX11_laysPoint 5 = .ok (.lload 5, 2) := by decide +kernel
theorem dX11_laysPoint_7 : decode cX11_laysPoint 7 = .ok (.lmul, 1) := by decide +kernel
theorem dX11_laysPoint_8 : decode cX11_laysPoint 8 = .ok (.lload_n 3, 1) := by decide +kernel
theorem dX11_laysPoint_9 : decode cX11_laysPoint 9 = .ok (.lload 7, 2) := by decide +kernel
theorem dX11_laysPoint_11 : decode cX11_laysPoint 11 = .ok (.lmul, 1) := by decide +kernel
theorem dX11_laysPoint_12 : decode cX11_laysPoint 12 = .ok (.ladd, 1) := by decide +kernel
theorem dX11_laysPoint_13 : decode cX11_laysPoint 13 = .ok (.lmul, 1) := by decide +kernel
theorem dX11_laysPoint_14 : decode cX11_laysPoint 14 = .ok (.putfield 185, 3) := by decide +kernel
theorem dX11_laysPoint_17 : decode cX11_laysPoint 17 = .ok (.aload_n 0, 1) := by decide +kernel
theorem dX11_laysPoint_18 : decode cX11_laysPoint 18 = .ok (.ldc2_w 40, 3) := by decide +kernel
theorem dX11_laysPoint_21 : decode cX11_laysPoint 21 = .ok (.lload_n 3, 1) := by decide +kernel
theorem dX11_laysPoint_22 : decode cX11_laysPoint 22 = .ok (.lload 5, 2) := by decide +kernel
theorem dX11_laysPoint_24 : decode cX11_laysPoint 24 = .ok (.lmul, 1) := by decide +kernel
theorem dX11_laysPoint_25 : decode cX11_laysPoint 25 = .ok (.lload_n 1, 1) := by decide +kernel
theorem dX11_laysPoint_26 : decode cX11_laysPoint 26 = .ok (.lload 7, 2) := by decide +kernel
theorem dX11_laysPoint_28 : decode cX11_laysPoint 28 = .ok (.lmul, 1) := by decide +kernel
theorem dX11_laysPoint_29 : decode cX11_laysPoint 29 = .ok (.lsub, 1) := by decide +kernel
theorem dX11_laysPoint_30 : decode cX11_laysPoint 30 = .ok (.lmul, 1) := by decide +kernel
theorem dX11_laysPoint_31 : decode cX11_laysPoint 31 = .ok (.putfield 188, 3) := by decide +kernel
theorem dX11_laysPoint_34 : decode cX11_laysPoint 34 = .ok (.aload_n 0, 1) := by decide +kernel
theorem dX11_laysPoint_35 : decode cX11_laysPoint 35 = .ok (.lload 5, 2) := by decide +kernel
theorem dX11_laysPoint_37 : decode cX11_laysPoint 37 = .ok (.lload 5, 2) := by decide +kernel
theorem dX11_laysPoint_39 : decode cX11_laysPoint 39 = .ok (.lmul, 1) := by decide +kernel
theorem dX11_laysPoint_40 : decode cX11_laysPoint 40 = .ok (.lload 7, 2) := by decide +kernel
theorem dX11_laysPoint_42 : decode cX11_laysPoint 42 = .ok (.lload 7, 2) := by decide +kernel
theorem dX11_laysPoint_44 : decode cX11_laysPoint 44 = .ok (.lmul, 1) := by decide +kernel
theorem dX11_laysPoint_45 : decode cX11_laysPoint 45 = .ok (.ladd, 1) := by decide +kernel
theorem dX11_laysPoint_46 : decode cX11_laysPoint 46 = .ok (.putfield 191, 3) := by decide +kernel
theorem dX11_laysPoint_49 : decode cX11_laysPoint 49 = .ok (.aload_n 0, 1) := by decide +kernel
theorem dX11_laysPoint_50 : decode cX11_laysPoint 50 = .ok (.getfield 191, 3) := by decide +kernel
theorem dX11_laysPoint_53 : decode cX11_laysPoint 53 = .ok (.aload_n 0, 1) := by decide +kernel
theorem dX11_laysPoint_54 : decode cX11_laysPoint 54 = .ok (.getfield 7, 3) := by decide +kernel
theorem dX11_laysPoint_57 : decode cX11_laysPoint 57 = .ok (.bipush 21, 2) := by decide +kernel
theorem dX11_laysPoint_59 : decode cX11_laysPoint 59 = .ok (.laload, 1) := by decide +kernel
theorem dX11_laysPoint_60 : decode cX11_laysPoint 60 = .ok (.aload_n 0, 1) := by decide +kernel
theorem dX11_laysPoint_61 : decode cX11_laysPoint 61 = .ok (.getfield 7, 3) := by decide +kernel
theorem dX11_laysPoint_64 : decode cX11_laysPoint 64 = .ok (.bipush 21, 2) := by decide +kernel
theorem dX11_laysPoint_66 : decode cX11_laysPoint 66 = .ok (.laload, 1) := by decide +kernel
theorem dX11_laysPoint_67 : decode cX11_laysPoint 67 = .ok (.lmul, 1) := by decide +kernel
theorem dX11_laysPoint_68 : decode cX11_laysPoint 68 = .ok (.lcmp, 1) := by decide +kernel
theorem dX11_laysPoint_69 : decode cX11_laysPoint 69 = .ok (.ifCond .lt 7, 3) := by decide +kernel
theorem dX11_laysPoint_72 : decode cX11_laysPoint 72 = .ok (.iconst 1, 1) := by decide +kernel
theorem dX11_laysPoint_73 : decode cX11_laysPoint 73 = .ok (.goto 4, 3) := by decide +kernel
theorem dX11_laysPoint_76 : decode cX11_laysPoint 76 = .ok (.iconst 0, 1) := by decide +kernel
theorem dX11_laysPoint_77 : decode cX11_laysPoint 77 = .ok (.ireturn, 1) := by decide +kernel
set_option maxRecDepth 20000 in
theorem ggX11_isInLoad_X11_size : GoodIn wsX11_isInLoad wsX11_size := goodIn_r _ [9] (by decide +kernel) (by decide +kernel)
set_option maxRecDepth 20000 in
theorem gX11_isInLoad_X11_size : GoodIn wsX11_isInLoad (va_wsS RX11 194 yX11_size wsX11_size) := goodIn_app (goodIn_of _ (by decide +kernel)) ggX11_isInLoad_X11_size
theorem dX11_isInLoad_0 : decode cX11_isInLoad 0 = .ok (.aload_n 0, 1) := by decide +kernel
theorem dX11_isInLoad_1 : decode cX11_isInLoad 1 = .ok (.getfield 185, 3) := by decide +kernel
theorem dX11_isInLoad_4 : decode cX11_isInLoad 4 = .ok (.invokestatic 194, 3) := by decide +kernel
theorem dX11_isInLoad_7 : decode cX11_isInLoad 7 = .ok (.aload_n 0, 1) := by decide +kernel
theorem dX11_isInLoad_8 : decode cX11_isInLoad 8 = .ok (.getfield 7, 3) := by decide +kernel
theorem dX11_isInLoad_11 : decode cX11_isInLoad 11 = .ok (.bipush 24, 2) := by decide +kernel
theorem dX11_isInLoad_13 : decode cX11_isInLoad 13 = .ok (.laload, 1) := by decide +kernel
theorem dX11_isInLoad_14 : decode cX11_isInLoad 14 = .ok (.aload_n 0, 1) := by decide +kernel
theorem dX11_isInLoad_15 : decode cX11_isInLoad 15 = .ok (.getfield 191, 3) := by decide +kernel
theorem dX11_isInLoad_18 : decode cX11_isInLoad 18 = .ok (.lmul, 1) := by decide +kernel
theorem dX11_isInLoad_19 : decode cX11_isInLoad 19 = .ok (.lcmp, 1) := by decide +kernel
theorem dX11_isInLoad_20 : decode cX11_isInLoad 20 = .ok (.ifCond .lt 37, 3) := by decide +kernel
theorem dX11_isInLoad_23 : decode cX11_isInLoad 23 = .ok (.aload_n 0, 1) := by decide +kernel
theorem dX11_isInLoad_24 : decode cX11_isInLoad 24 = .ok (.getfield 188, 3) := by decide +kernel
theorem dX11_isInLoad_27 : decode cX11_isInLoad 27 = .ok (.invokestatic 194, 3) := by decide +kernel
theorem dX11_isInLoad_30 : decode cX11_isInLoad 30 = .ok (.ldc2_w 40, 3) := by decide +kernel
theorem dX11_isInLoad_33 : decode cX11_isInLoad 33 = .ok (.lmul, 1) := by decide +kernel
theorem dX11_isInLoad_34 : decode cX11_isInLoad 34 = .ok (.aload_n 0, 1) := by decide +kernel
theorem dX11_isInLoad_35 : decode cX11_isInLoad 35 = .ok (.getfield 7, 3) := by decide +kernel
theorem dX11_isInLoad_38 : decode cX11_isInLoad 38 = .ok (.bipush 25, 2) := by decide +kernel
theorem dX11_isInLoad_40 : decode cX11_isInLoad 40 = .ok (.laload, 1) := by decide +kernel
theorem dX11_isInLoad_41 : decode cX11_isInLoad 41 = .ok (.aload_n 0, 1) := by decide +kernel
theorem dX11_isInLoad_42 : decode cX11_isInLoad 42 = .ok (.getfield 185, 3) := by decide +kernel
theorem dX11_isInLoad_45 : decode cX11_isInLoad 45 = .ok (.invokestatic 194, 3) := by decide +kernel
theorem dX11_isInLoad_48 : decode cX11_isInLoad 48 = .ok (.lmul, 1) := by decide +kernel
theorem dX11_isInLoad_49 : decode cX11_isInLoad 49 = .ok (.lcmp, 1) := by decide +kernel
theorem dX11_isInLoad_50 : decode cX11_isInLoad 50 = .ok (.ifCond .gt 7, 3) := by decide +kernel
theorem dX11_isInLoad_53 : decode cX11_isInLoad 53 = .ok (.iconst 1, 1) := by decide +kernel
theorem dX11_isInLoad_54 : decode cX11_isInLoad 54 = .ok (.goto 4, 3) := by decide +kernel
theorem dX11_isInLoad_57 : decode cX11_isInLoad 57 = .ok (.iconst 0, 1) := by decide +kernel
theorem dX11_isInLoad_58 : decode cX11_isInLoad 58 = .ok (.ireturn, 1) := by decide +kernel
set_option maxRecDepth 20000 in
theorem ggX11_isInside_X11_holds : GoodIn wsX11_isInside wsX11_holds := goodIn_r _ [8, 9, 10, 11, 7, 12, 13, 14, 15, 16, 17, 18, 19, 20, 21, 22, 23, 24, 25, 26, 27, 28, 29, 30, 31, 32, 33, 34, 35, 36, 37, 38, 39, 40, 41, 42, 43, 44, 45, 46, 47, 48, 49, 50, 51, 52] (by decide +kernel) (by decide +kernel)
set_option maxRecDepth 20000 in
theorem gX11_isInside_X11_holds : GoodIn wsX11_isInside (wsV RX11 110 RX11 yX11_holds wsX11_holds) := goodIn_app (goodIn_of _ (by decide +kernel)) ggX11_isInside_X11_holds
theorem dX11_isInside_0 : decode cX11_isInside 0 = .ok (.aload_n 0, 1) := by decide +kernel
theorem dX11_isInside_1 : decode cX11_isInside 1 = .ok (.iload_n 1, 1) := by decide +kernel
theorem dX11_isInside_2 : decode cX11_isInside 2 = .ok (.aload_n 0, 1) := by decide +kernel
theorem dX11_isInside_3 : decode cX11_isInside 3 = .ok (.getfield 185, 3) := by decide +kernel
theorem dX11_isInside_6 : decode cX11_isInside 6 = .ok (.aload_n 0, 1) := by decide +kernel
theorem dX11_isInside_7 : decode cX11_isInside 7 = .ok (.getfield 188, 3) := by decide +kernel
theorem dX11_isInside_10 : decode cX11_isInside 10 = .ok (.aload_n 0, 1) := by decide +kernel
theorem dX11_isInside_11 : decode cX11_isInside 11 = .ok (.getfield 191, 3) := by decide +kernel
theorem dX11_isInside_14 : decode cX11_isInside 14 = .ok (.invokevirtual 110, 3) := by decide +kernel
theorem dX11_isInside_17 : decode cX11_isInside 17 = .ok (.ireturn, 1) := by decide +kernel
set_option maxRecDepth 20000 in
theorem ggX11_watchSwing_X11_isInside : GoodIn wsX11_watchSwing wsX11_isInside := goodIn_r _ [6, 7, 8, 9, 10, 11, 12, 5, 13, 14, 15, 16, 17, 18, 19, 20, 21, 1, 22, 23, 24, 25, 26, 27, 28, 29, 30, 31, 32, 33, 34, 35, 36, 46, 47, 48, 49, 50, 51, 52, 53, 54, 55, 56, 57, 58, 59, 60, 61, 62, 63, 64, 65] (by decide +kernel) (by decide +kernel)
set_option maxRecDepth 20000 in
theorem gX11_watchSwing_X11_isInside : GoodIn wsX11_watchSwing (wsV RX11 197 RX11 yX11_isInside wsX11_isInside) := goodIn_app (goodIn_of _ (by decide +kernel)) ggX11_watchSwing_X11_isInside
set_option maxRecDepth 20000 in
theorem ggX11_watchSwing_X11_endSwing : GoodIn wsX11_watchSwing wsX11_endSwing := goodIn_r _ [40, 1, 41, 42, 43, 5, 44, 45, 46, 47, 48, 49, 50, 51, 52, 53, 54, 55, 56, 57, 58, 59, 60, 61, 62, 63, 64, 65] (by decide +kernel) (by decide +kernel)
set_option maxRecDepth 20000 in
theorem gX11_watchSwing_X11_endSwing : GoodIn wsX11_watchSwing (wsV RX11 200 RX11 yX11_endSwing wsX11_endSwing) := goodIn_app (goodIn_of _ (by decide +kernel)) ggX11_watchSwing_X11_endSwing
set_option maxRecDepth 20000 in
theorem ggX11_watchSwing_X11_note : GoodIn wsX11_watchSwing wsX11_note := goodIn_r _ [44, 1, 45, 46, 47, 48, 49, 50, 51, 52, 53, 54, 55, 56, 57, 58, 59, 60, 61, 62, 63, 64, 65] (by decide +kernel) (by decide +kernel)
set_option maxRecDepth 20000 in
theorem gX11_watchSwing_X11_note : GoodIn wsX11_watchSwing (wsV RX11 181 RX11 yX11_note wsX11_note) := goodIn_app (goodIn_of _ (by decide +kernel)) ggX11_watchSwing_X11_note
theorem dX11_watchSwing_0 : decode cX11_watchSwing 0 = .ok (.aload_n 0, 1) := by decide +kernel
theorem dX11_watchSwing_1 : decode cX11_watchSwing 1 = .ok (.iconst 4, 1) := by decide +kernel
theorem dX11_watchSwing_2 : decode cX11_watchSwing 2 = .ok (.invokevirtual 197, 3) := by decide +kernel
theorem dX11_watchSwing_5 : decode cX11_watchSwing 5 = .ok (.ifCond .ne 10, 3) := by decide +kernel
theorem dX11_watchSwing_8 : decode cX11_watchSwing 8 = .ok (.aload_n 0, 1) := by decide +kernel
theorem dX11_watchSwing_9 : decode cX11_watchSwing 9 = .ok (.invokevirtual 200, 3) := by decide +kernel
theorem dX11_watchSwing_12 : decode cX11_watchSwing 12 = .ok (.goto 69, 3) := by decide +kernel
theorem dX11_watchSwing_15 : decode cX11_watchSwing 15 = .ok (.aload_n 0, 1) := by decide +kernel
theorem dX11_watchSwing_16 : decode cX11_watchSwing 16 = .ok (.iconst 3, 1) := by decide +kernel
theorem dX11_watchSwing_17 : decode cX11_watchSwing 17 = .ok (.invokevirtual 197, 3) := by decide +kernel
theorem dX11_watchSwing_20 : decode cX11_watchSwing 20 = .ok (.ifCond .ne 17, 3) := by decide +kernel
theorem dX11_watchSwing_23 : decode cX11_watchSwing 23 = .ok (.aload_n 0, 1) := by decide +kernel
theorem dX11_watchSwing_24 : decode cX11_watchSwing 24 = .ok (.getfield 7, 3) := by decide +kernel
theorem dX11_watchSwing_27 : decode cX11_watchSwing 27 = .ok (.bipush 94, 2) := by decide +kernel
theorem dX11_watchSwing_29 : decode cX11_watchSwing 29 = .ok (.dup2, 1) := by decide +kernel
theorem dX11_watchSwing_30 : decode cX11_watchSwing 30 = .ok (.laload, 1) := by decide +kernel
theorem dX11_watchSwing_31 : decode cX11_watchSwing 31 = .ok (.lconst 1, 1) := by decide +kernel
theorem dX11_watchSwing_32 : decode cX11_watchSwing 32 = .ok (.ladd, 1) := by decide +kernel
theorem dX11_watchSwing_33 : decode cX11_watchSwing 33 = .ok (.lastore, 1) := by decide +kernel
theorem dX11_watchSwing_34 : decode cX11_watchSwing 34 = .ok (.goto 47, 3) := by decide +kernel
theorem dX11_watchSwing_37 : decode cX11_watchSwing 37 = .ok (.aload_n 0, 1) := by decide +kernel
theorem dX11_watchSwing_38 : decode cX11_watchSwing 38 = .ok (.getfield 7, 3) := by decide +kernel
theorem dX11_watchSwing_41 : decode cX11_watchSwing 41 = .ok (.bipush 95, 2) := by decide +kernel
theorem dX11_watchSwing_43 : decode cX11_watchSwing 43 = .ok (.laload, 1) := by decide +kernel
theorem dX11_watchSwing_44 : decode cX11_watchSwing 44 = .ok (.lconst 0, 1) := by decide +kernel
theorem dX11_watchSwing_45 : decode cX11_watchSwing 45 = .ok (.lcmp, 1) := by decide +kernel
theorem dX11_watchSwing_46 : decode cX11_watchSwing 46 = .ok (.ifCond .ne 35, 3) := by decide +kernel
theorem dX11_watchSwing_49 : decode cX11_watchSwing 49 = .ok (.aload_n 0, 1) := by decide +kernel
theorem dX11_watchSwing_50 : decode cX11_watchSwing 50 = .ok (.getfield 7, 3) := by decide +kernel
theorem dX11_watchSwing_53 : decode cX11_watchSwing 53 = .ok (.bipush 94, 2) := by decide +kernel
theorem dX11_watchSwing_55 : decode cX11_watchSwing 55 = .ok (.laload, 1) := by decide +kernel
theorem dX11_watchSwing_56 : decode cX11_watchSwing 56 = .ok (.aload_n 0, 1) := by decide +kernel
theorem dX11_watchSwing_57 : decode cX11_watchSwing 57 = .ok (.getfield 7, 3) := by decide +kernel
theorem dX11_watchSwing_60 : decode cX11_watchSwing 60 = .ok (.bipush 27, 2) := by decide +kernel
theorem dX11_watchSwing_62 : decode cX11_watchSwing 62 = .ok (.laload, 1) := by decide +kernel
theorem dX11_watchSwing_63 : decode cX11_watchSwing 63 = .ok (.lcmp, 1) := by decide +kernel
theorem dX11_watchSwing_64 : decode cX11_watchSwing 64 = .ok (.ifCond .lt 17, 3) := by decide +kernel
theorem dX11_watchSwing_67 : decode cX11_watchSwing 67 = .ok (.aload_n 0, 1) := by decide +kernel
theorem dX11_watchSwing_68 : decode cX11_watchSwing 68 = .ok (.getfield 7, 3) := by decide +kernel
theorem dX11_watchSwing_71 : decode cX11_watchSwing 71 = .ok (.bipush 95, 2) := by decide +kernel
theorem dX11_watchSwing_73 : decode cX11_watchSwing 73 = .ok (.lconst 1, 1) := by decide +kernel
theorem dX11_watchSwing_74 : decode cX11_watchSwing 74 = .ok (.lastore, 1) := by decide +kernel
theorem dX11_watchSwing_75 : decode cX11_watchSwing 75 = .ok (.aload_n 0, 1) := by decide +kernel
theorem dX11_watchSwing_76 : decode cX11_watchSwing 76 = .ok (.bipush 40, 2) := by decide +kernel
theorem dX11_watchSwing_78 : decode cX11_watchSwing 78 = .ok (.invokevirtual 181, 3) := by decide +kernel
theorem dX11_watchSwing_81 : decode cX11_watchSwing 81 = .ok (.return_, 1) := by decide +kernel
theorem dX11_fitsWay_0 : decode cX11_fitsWay 0 = .ok (.aload_n 0, 1) := by decide +kernel
theorem dX11_fitsWay_1 : decode cX11_fitsWay 1 = .ok (.getfield 7, 3) := by decide +kernel
theorem dX11_fitsWay_4 : decode cX11_fitsWay 4 = .ok (.bipush 90, 2) := by decide +kernel
theorem dX11_fitsWay_6 : decode cX11_fitsWay 6 = .ok (.laload, 1) := by decide +kernel
theorem dX11_fitsWay_7 : decode cX11_fitsWay 7 = .ok (.aload_n 0, 1) := by decide +kernel
theorem dX11_fitsWay_8 : decode cX11_fitsWay 8 = .ok (.getfield 7, 3) := by decide +kernel
theorem dX11_fitsWay_11 : decode cX11_fitsWay 11 = .ok (.bipush 23, 2) := by decide +kernel
theorem dX11_fitsWay_13 : decode cX11_fitsWay 13 = .ok (.laload, 1) := by decide +kernel
theorem dX11_fitsWay_14 : decode cX11_fitsWay 14 = .ok (.lcmp, 1) := by decide +kernel
theorem dX11_fitsWay_15 : decode cX11_fitsWay 15 = .ok (.ifCond .le 7, 3) := by decide +kernel
theorem dX11_fitsWay_18 : decode cX11_fitsWay 18 = .ok (.iconst 1, 1) := by decide +kernel
theorem dX11_fitsWay_19 : decode cX11_fitsWay 19 = .ok (.goto 4, 3) := by decide +kernel
theorem dX11_fitsWay_22 : decode cX11_fitsWay 22 = .ok (.iconst 0, 1) := by decide +kernel
theorem dX11_fitsWay_23 : decode cX11_fitsWay 23 = .ok (.istore_n 2, 1) := by decide +kernel
theorem dX11_fitsWay_24 : decode cX11_fitsWay 24 = .ok (.iload_n 2, 1) := by decide +kernel
theorem dX11_fitsWay_25 : decode cX11_fitsWay 25 = .ok (.ifCond .eq 13, 3) := by decide +kernel
theorem dX11_fitsWay_28 : decode cX11_fitsWay 28 = .ok (.aload_n 0, 1) := by decide +kernel
theorem dX11_fitsWay_29 : decode cX11_fitsWay 29 = .ok (.getfield 7, 3) := by decide +kernel
theorem dX11_fitsWay_32 : decode cX11_fitsWay 32 = .ok (.bipush 84, 2) := by decide +kernel
theorem dX11_fitsWay_34 : decode cX11_fitsWay 34 = .ok (.laload, 1) := by decide +kernel
theorem dX11_fitsWay_35 : decode cX11_fitsWay 35 = .ok (.goto 10, 3) := by decide +kernel
theorem dX11_fitsWay_38 : decode cX11_fitsWay 38 = .ok (.aload_n 0, 1) := by decide +kernel
theorem dX11_fitsWay_39 : decode cX11_fitsWay 39 = .ok (.getfield 7, 3) := by decide +kernel
theorem dX11_fitsWay_42 : decode cX11_fitsWay 42 = .ok (.bipush 88, 2) := by decide +kernel
theorem dX11_fitsWay_44 : decode cX11_fitsWay 44 = .ok (.laload, 1) := by decide +kernel
theorem dX11_fitsWay_45 : decode cX11_fitsWay 45 = .ok (.lstore_n 3, 1) := by decide +kernel
theorem dX11_fitsWay_46 : decode cX11_fitsWay 46 = .ok (.iload_n 2, 1) := by decide +kernel
theorem dX11_fitsWay_47 : decode cX11_fitsWay 47 = .ok (.ifCond .eq 13, 3) := by decide +kernel
theorem dX11_fitsWay_50 : decode cX11_fitsWay 50 = .ok (.aload_n 0, 1) := by decide +kernel
theorem dX11_fitsWay_51 : decode cX11_fitsWay 51 = .ok (.getfield 7, 3) := by decide +kernel
theorem dX11_fitsWay_54 : decode cX11_fitsWay 54 = .ok (.bipush 85, 2) := by decide +kernel
theorem dX11_fitsWay_56 : decode cX11_fitsWay 56 = .ok (.laload, 1) := by decide +kernel
theorem dX11_fitsWay_57 : decode cX11_fitsWay 57 = .ok (.goto 10, 3) := by decide +kernel
theorem dX11_fitsWay_60 : decode cX11_fitsWay 60 = .ok (.aload_n 0, 1) := by decide +kernel
theorem dX11_fitsWay_61 : decode cX11_fitsWay 61 = .ok (.getfield 7, 3) := by decide +kernel
theorem dX11_fitsWay_64 : decode cX11_fitsWay 64 = .ok (.bipush 89, 2) := by decide +kernel
theorem dX11_fitsWay_66 : decode cX11_fitsWay 66 = .ok (.laload, 1) := by decide +kernel
theorem dX11_fitsWay_67 : decode cX11_fitsWay 67 = .ok (.lstore 5, 2) := by decide +kernel
theorem dX11_fitsWay_69 : decode cX11_fitsWay 69 = .ok (.aload_n 0, 1) := by decide +kernel
theorem dX11_fitsWay_70 : decode cX11_fitsWay 70 = .ok (.getfield 7, 3) := by decide +kernel
theorem dX11_fitsWay_73 : decode cX11_fitsWay 73 = .ok (.bipush 86, 2) := by decide +kernel
theorem dX11_fitsWay_75 : decode cX11_fitsWay 75 = .ok (.laload, 1) := by decide +kernel
theorem dX11_fitsWay_76 : decode cX11_fitsWay 76 = .ok (.lstore 7, 2) := by decide +kernel
theorem dX11_fitsWay_78 : decode cX11_fitsWay 78 = .ok (.aload_n 0, 1) := by decide +kernel
theorem dX11_fitsWay_79 : decode cX11_fitsWay 79 = .ok (.getfield 7, 3) := by decide +kernel
theorem dX11_fitsWay_82 : decode cX11_fitsWay 82 = .ok (.bipush 87, 2) := by decide +kernel
theorem dX11_fitsWay_84 : decode cX11_fitsWay 84 = .ok (.laload, 1) := by decide +kernel
theorem dX11_fitsWay_85 : decode cX11_fitsWay 85 = .ok (.lstore 9, 2) := by decide +kernel
theorem dX11_fitsWay_87 : decode cX11_fitsWay 87 = .ok (.aload_n 0, 1) := by decide +kernel
theorem dX11_fitsWay_88 : decode cX11_fitsWay 88 = .ok (.getfield 7, 3) := by decide +kernel
theorem dX11_fitsWay_91 : decode cX11_fitsWay 91 = .ok (.bipush 17, 2) := by decide +kernel
theorem dX11_fitsWay_93 : decode cX11_fitsWay 93 = .ok (.laload, 1) := by decide +kernel
theorem dX11_fitsWay_94 : decode cX11_fitsWay 94 = .ok (.lload_n 3, 1) := by decide +kernel
theorem dX11_fitsWay_95 : decode cX11_fitsWay 95 = .ok (.lload 7, 2) := by decide +kernel
theorem dX11_fitsWay_97 : decode cX11_fitsWay 97 = .ok (.lmul, 1) := by decide +kernel
theorem dX11_fitsWay_98 : decode cX11_fitsWay 98 = .ok (.lload 5, 2) := by decide +kernel
theorem dX11_fitsWay_100 : decode cX11_fitsWay 100 = .ok (.lload 9, 2) := by decide +kernel
theorem dX11_fitsWay_102 : decode cX11_fitsWay 102 = .ok (.lmul, 1) := by decide +kernel
theorem dX11_fitsWay_103 : decode cX11_fitsWay 103 = .ok (.ladd, 1) := by decide +kernel
theorem dX11_fitsWay_104 : decode cX11_fitsWay 104 = .ok (.lmul, 1) := by decide +kernel
theorem dX11_fitsWay_105 : decode cX11_fitsWay 105 = .ok (.aload_n 0, 1) := by decide +kernel
theorem dX11_fitsWay_106 : decode cX11_fitsWay 106 = .ok (.getfield 7, 3) := by decide +kernel
theorem dX11_fitsWay_109 : decode cX11_fitsWay 109 = .ok (.bipush 18, 2) := by decide +kernel
theorem dX11_fitsWay_111 : decode cX11_fitsWay 111 = .ok (.laload, 1) := by decide +kernel
theorem dX11_fitsWay_112 : decode cX11_fitsWay 112 = .ok (.lload 5, 2) := by decide +kernel
theorem dX11_fitsWay_114 : decode cX11_fitsWay 114 = .ok (.lload 7, 2) := by decide +kernel
theorem dX11_fitsWay_116 : decode cX11_fitsWay 116 = .ok (.lmul, 1) := by decide +kernel
theorem dX11_fitsWay_117 : decode cX11_fitsWay 117 = .ok (.lload_n 3, 1) := by decide +kernel
theorem dX11_fitsWay_118 : decode cX11_fitsWay 118 = .ok (.lload 9, 2) := by decide +kernel
theorem dX11_fitsWay_120 : decode cX11_fitsWay 120 = .ok (.lmul, 1) := by decide +kernel
theorem dX11_fitsWay_121 : decode cX11_fitsWay 121 = .ok (.lsub, 1) := by decide +kernel
theorem dX11_fitsWay_122 : decode cX11_fitsWay 122 = .ok (.lmul, 1) := by decide +kernel
theorem dX11_fitsWay_123 : decode cX11_fitsWay 123 = .ok (.ladd, 1) := by decide +kernel
theorem dX11_fitsWay_124 : decode cX11_fitsWay 124 = .ok (.lstore 11, 2) := by decide +kernel
theorem dX11_fitsWay_126 : decode cX11_fitsWay 126 = .ok (.aload_n 0, 1) := by decide +kernel
theorem dX11_fitsWay_127 : decode cX11_fitsWay 127 = .ok (.getfield 7, 3) := by decide +kernel
theorem dX11_fitsWay_130 : decode cX11_fitsWay 130 = .ok (.bipush 32, 2) := by decide +kernel
theorem dX11_fitsWay_132 : decode cX11_fitsWay 132 = .ok (.iload_n 1, 1) := by decide +kernel
theorem dX11_fitsWay_133 : decode cX11_fitsWay 133 = .ok (.iadd, 1) := by decide +kernel
theorem dX11_fitsWay_134 : decode cX11_fitsWay 134 = .ok (.laload, 1) := by decide +kernel
theorem dX11_fitsWay_135 : decode cX11_fitsWay 135 = .ok (.ldc2_w 72, 3) := by decide +kernel
theorem dX11_fitsWay_138 : decode cX11_fitsWay 138 = .ok (.lcmp, 1) := by decide +kernel
theorem dX11_fitsWay_139 : decode cX11_fitsWay 139 = .ok (.ifCond .eq 34, 3) := by decide +kernel
theorem dX11_fitsWay_142 : decode cX11_fitsWay 142 = .ok (.aload_n 0, 1) := by decide +kernel
theorem dX11_fitsWay_143 : decode cX11_fitsWay 143 = .ok (.getfield 7, 3) := by decide +kernel
theorem dX11_fitsWay_146 : decode cX11_fitsWay 146 = .ok (.bipush 32, 2) := by decide +kernel
theorem dX11_fitsWay_148 : decode cX11_fitsWay 148 = .ok (.iload_n 1, 1) := by decide +kernel
theorem dX11_fitsWay_149 : decode cX11_fitsWay 149 = .ok (.iadd, 1) := by decide +kernel
theorem dX11_fitsWay_150 : decode cX11_fitsWay 150 = .ok (.laload, 1) := by decide +kernel
theorem dX11_fitsWay_151 : decode cX11_fitsWay 151 = .ok (.lconst 0, 1) := by decide +kernel
theorem dX11_fitsWay_152 : decode cX11_fitsWay 152 = .ok (.lcmp, 1) := by decide +kernel
theorem dX11_fitsWay_153 : decode cX11_fitsWay 153 = .ok (.ifCond .ne 13, 3) := by decide +kernel
theorem dX11_fitsWay_156 : decode cX11_fitsWay 156 = .ok (.lload 11, 2) := by decide +kernel
theorem dX11_fitsWay_158 : decode cX11_fitsWay 158 = .ok (.lconst 0, 1) := by decide +kernel
theorem dX11_fitsWay_159 : decode cX11_fitsWay 159 = .ok (.lcmp, 1) := by decide +kernel
theorem dX11_fitsWay_160 : decode cX11_fitsWay 160 = .ok (.ifCond .le 17, 3) := by decide +kernel
theorem dX11_fitsWay_163 : decode cX11_fitsWay 163 = .ok (.goto 10, 3) := by decide +kernel
theorem dX11_fitsWay_166 : decode cX11_fitsWay 166 = .ok (.lload 11, 2) := by decide +kernel
theorem dX11_fitsWay_168 : decode cX11_fitsWay 168 = .ok (.lconst 0, 1) := by decide +kernel
theorem dX11_fitsWay_169 : decode cX11_fitsWay 169 = .ok (.lcmp, 1) := by decide +kernel
theorem dX11_fitsWay_170 : decode cX11_fitsWay 170 = .ok (.ifCond .ge 7, 3) := by decide +kernel
theorem dX11_fitsWay_173 : decode cX11_fitsWay 173 = .ok (.iconst 1, 1) := by decide +kernel
theorem dX11_fitsWay_174 : decode cX11_fitsWay 174 = .ok (.goto 4, 3) := by decide +kernel
theorem dX11_fitsWay_177 : decode cX11_fitsWay 177 = .ok (.iconst 0, 1) := by decide +kernel
theorem dX11_fitsWay_178 : decode cX11_fitsWay 178 = .ok (.ireturn, 1) := by decide +kernel
theorem dX11_has_0 : decode cX11_has 0 = .ok (.aload_n 0, 1) := by decide +kernel
theorem dX11_has_1 : decode cX11_has 1 = .ok (.getfield 7, 3) := by decide +kernel
theorem dX11_has_4 : decode cX11_has 4 = .ok (.bipush 21, 2) := by decide +kernel
theorem dX11_has_6 : decode cX11_has 6 = .ok (.iload_n 1, 1) := by decide +kernel
theorem dX11_has_7 : decode cX11_has 7 = .ok (.iadd, 1) := by decide +kernel
theorem dX11_has_8 : decode cX11_has 8 = .ok (.laload, 1) := by decide +kernel
theorem dX11_has_9 : decode cX11_has 9 = .ok (.iload_n 2, 1) := by decide +kernel
theorem dX11_has_10 : decode cX11_has 10 = .ok (.lshr, 1) := by decide +kernel
theorem dX11_has_11 : decode cX11_has 11 = .ok (.lconst 1, 1) := by decide +kernel
theorem dX11_has_12 : decode cX11_has 12 = .ok (.land, 1) := by decide +kernel
theorem dX11_has_13 : decode cX11_has 13 = .ok (.lconst 1, 1) := by decide +kernel
theorem dX11_has_14 : decode cX11_has 14 = .ok (.lcmp, 1) := by decide +kernel
theorem dX11_has_15 : decode cX11_has 15 = .ok (.ifCond .ne 7, 3) := by decide +kernel
theorem dX11_has_18 : decode cX11_has 18 = .ok (.iconst 1, 1) := by decide +kernel
theorem dX11_has_19 : decode cX11_has 19 = .ok (.goto 4, 3) := by decide +kernel
theorem dX11_has_22 : decode cX11_has 22 = .ok (.iconst 0, 1) := by decide +kernel
theorem dX11_has_23 : decode cX11_has 23 = .ok (.ireturn, 1) := by decide +kernel
set_option maxRecDepth 20000 in
theorem ggX11_picksUp_X11_has : GoodIn wsX11_picksUp wsX11_has := goodIn_r _ [6, 1, 46, 47, 48, 49, 50, 51, 52, 53, 54, 55, 56, 57, 58, 59, 60, 61, 62, 63, 64, 65] (by decide +kernel) (by decide +kernel)
set_option maxRecDepth 20000 in
theorem gX11_picksUp_X11_has : GoodIn wsX11_picksUp (wsV RX11 203 RX11 yX11_has wsX11_has) := goodIn_app (goodIn_of _ (by decide +kernel)) ggX11_picksUp_X11_has
set_option maxRecDepth 20000 in
theorem ggX11_picksUp_X11_isInside : GoodIn wsX11_picksUp wsX11_isInside := goodIn_r _ [10, 11, 12, 13, 14, 15, 16, 5, 17, 18, 19, 20, 21, 22, 23, 24, 25, 1, 26, 27, 28, 29, 30, 31, 32, 33, 34, 35, 36, 37, 38, 39, 40, 46, 47, 48, 49, 50, 51, 52, 53, 54, 55, 56, 57, 58, 59, 60, 61, 62, 63, 64, 65] (by decide +kernel) (by decide +kernel)
set_option maxRecDepth 20000 in
theorem gX11_picksUp_X11_isInside : GoodIn wsX11_picksUp (wsV RX11 197 RX11 yX11_isInside wsX11_isInside) := goodIn_app (goodIn_of _ (by decide +kernel)) ggX11_picksUp_X11_isInside
set_option maxRecDepth 20000 in
theorem ggX11_picksUp_X11_fitsWay : GoodIn wsX11_picksUp wsX11_fitsWay := goodIn_r _ [44, 1, 45, 46, 47, 48, 49, 50, 51, 52, 53, 54, 55, 56, 57, 58, 59, 60, 61, 62, 63, 64, 65] (by decide +kernel) (by decide +kernel)
set_option maxRecDepth 20000 in
theorem gX11_picksUp_X11_fitsWay : GoodIn wsX11_picksUp (wsV RX11 206 RX11 yX11_fitsWay wsX11_fitsWay) := goodIn_app (goodIn_of _ (by decide +kernel)) ggX11_picksUp_X11_fitsWay
theorem dX11_picksUp_0 : decode cX11_picksUp 0 = .ok (.aload_n 0, 1) := by decide +kernel
theorem dX11_picksUp_1 : decode cX11_picksUp 1 = .ok (.getfield 7, 3) := by decide +kernel
theorem dX11_picksUp_4 : decode cX11_picksUp 4 = .ok (.bipush 95, 2) := by decide +kernel
theorem dX11_picksUp_6 : decode cX11_picksUp 6 = .ok (.laload, 1) := by decide +kernel
theorem dX11_picksUp_7 : decode cX11_picksUp 7 = .ok (.lconst 0, 1) := by decide +kernel
theorem dX11_picksUp_8 : decode cX11_picksUp 8 = .ok (.lcmp, 1) := by decide +kernel
theorem dX11_picksUp_9 : decode cX11_picksUp 9 = .ok (.ifCond .eq 13, 3) := by decide +kernel
theorem dX11_picksUp_12 : decode cX11_picksUp 12 = .ok (.aload_n 0, 1) := by decide +kernel
theorem dX11_picksUp_13 : decode cX11_picksUp 13 = .ok (.bipush 7, 2) := by decide +kernel
theorem dX11_picksUp_15 : decode cX11_picksUp 15 = .ok (.iload_n 1, 1) := by decide +kernel
theorem dX11_picksUp_16 : decode cX11_picksUp 16 = .ok (.invokevirtual 203, 3) := by decide +kernel
theorem dX11_picksUp_19 : decode cX11_picksUp 19 = .ok (.ifCond .ne 7, 3) := by decide +kernel
theorem dX11_picksUp_22 : decode cX11_picksUp 22 = .ok (.iconst 1, 1) := by decide +kernel
theorem dX11_picksUp_23 : decode cX11_picksUp 23 = .ok (.goto 4, 3) := by decide +kernel
theorem dX11_picksUp_26 : decode cX11_picksUp 26 = .ok (.iconst 0, 1) := by decide +kernel
theorem dX11_picksUp_27 : decode cX11_picksUp 27 = .ok (.istore_n 2, 1) := by decide +kernel
theorem dX11_picksUp_28 : decode cX11_picksUp 28 = .ok (.aload_n 0, 1) := by decide +kernel
theorem dX11_picksUp_29 : decode cX11_picksUp 29 = .ok (.getfield 7, 3) := by decide +kernel
theorem dX11_picksUp_32 : decode cX11_picksUp 32 = .ok (.bipush 96, 2) := by decide +kernel
theorem dX11_picksUp_34 : decode cX11_picksUp 34 = .ok (.laload, 1) := by decide +kernel
theorem dX11_picksUp_35 : decode cX11_picksUp 35 = .ok (.lconst 0, 1) := by decide +kernel
theorem dX11_picksUp_36 : decode cX11_picksUp 36 = .ok (.lcmp, 1) := by decide +kernel
theorem dX11_picksUp_37 : decode cX11_picksUp 37 = .ok (.ifCond .eq 12, 3) := by decide +kernel
theorem dX11_picksUp_40 : decode cX11_picksUp 40 = .ok (.aload_n 0, 1) := by decide +kernel
theorem dX11_picksUp_41 : decode cX11_picksUp 41 = .ok (.iconst 5, 1) := by decide +kernel
theorem dX11_picksUp_42 : decode cX11_picksUp 42 = .ok (.iload_n 1, 1) := by decide +kernel
theorem dX11_picksUp_43 : decode cX11_picksUp 43 = .ok (.invokevirtual 203, 3) := by decide +kernel
theorem dX11_picksUp_46 : decode cX11_picksUp 46 = .ok (.ifCond .ne 7, 3) := by decide +kernel
theorem dX11_picksUp_49 : decode cX11_picksUp 49 = .ok (.iconst 1, 1) := by decide +kernel
theorem dX11_picksUp_50 : decode cX11_picksUp 50 = .ok (.goto 4, 3) := by decide +kernel
theorem dX11_picksUp_53 : decode cX11_picksUp 53 = .ok (.iconst 0, 1) := by decide +kernel
theorem dX11_picksUp_54 : decode cX11_picksUp 54 = .ok (.istore_n 3, 1) := by decide +kernel
theorem dX11_picksUp_55 : decode cX11_picksUp 55 = .ok (.aload_n 0, 1) := by decide +kernel
theorem dX11_picksUp_56 : decode cX11_picksUp 56 = .ok (.getfield 7, 3) := by decide +kernel
theorem dX11_picksUp_59 : decode cX11_picksUp 59 = .ok (.bipush 91, 2) := by decide +kernel
theorem dX11_picksUp_61 : decode cX11_picksUp 61 = .ok (.laload, 1) := by decide +kernel
theorem dX11_picksUp_62 : decode cX11_picksUp 62 = .ok (.lconst 1, 1) := by decide +kernel
theorem dX11_picksUp_63 : decode cX11_picksUp 63 = .ok (.lcmp, 1) := by decide +kernel
theorem dX11_picksUp_64 : decode cX11_picksUp 64 = .ok (.ifCond .ne 31, 3) := by decide +kernel
theorem dX11_picksUp_67 : decode cX11_picksUp 67 = .ok (.iload_n 2, 1) := by decide +kernel
theorem dX11_picksUp_68 : decode cX11_picksUp 68 = .ok (.ifCond .eq 27, 3) := by decide +kernel
theorem dX11_picksUp_71 : decode cX11_picksUp 71 = .ok (.iload_n 3, 1) := by decide +kernel
theorem dX11_picksUp_72 : decode cX11_picksUp 72 = .ok (.ifCond .eq 23, 3) := by decide +kernel
theorem dX11_picksUp_75 : decode cX11_picksUp 75 = .ok (.aload_n 0, 1) := by decide +kernel
theorem dX11_picksUp_76 : decode cX11_picksUp 76 = .ok (.iload_n 1, 1) := by decide +kernel
theorem dX11_picksUp_77 : decode cX11_picksUp 77 = .ok (.invokevirtual 197, 3) := by decide +kernel
theorem dX11_picksUp_80 : decode cX11_picksUp 80 = .ok (.ifCond .eq 15, 3) := by decide +kernel
theorem dX11_picksUp_83 : decode cX11_picksUp 83 = .ok (.aload_n 0, 1) := by decide +kernel
theorem dX11_picksUp_84 : decode cX11_picksUp 84 = .ok (.iload_n 1, 1) := by decide +kernel
theorem dX11_picksUp_85 : decode cX11_picksUp 85 = .ok (.invokevirtual 206, 3) := by decide +kernel
theorem dX11_picksUp_88 : decode cX11_picksUp 88 = .ok (.ifCond .eq 7, 3) := by decide +kernel
theorem dX11_picksUp_91 : decode cX11_picksUp 91 = .ok (.iconst 1, 1) := by decide +kernel
theorem dX11_picksUp_92 : decode cX11_picksUp 92 = .ok (.goto 4, 3) := by decide +kernel
theorem dX11_picksUp_95 : decode cX11_picksUp 95 = .ok (.iconst 0, 1) := by decide +kernel
theorem dX11_picksUp_96 : decode cX11_picksUp 96 = .ok (.ireturn, 1) := by decide +kernel
set_option maxRecDepth 20000 in
theorem ggX11_goOnZones_X11_picksUp : GoodIn wsX11_goOnZones wsX11_picksUp := goodIn_r _ [6, 1, 7, 8, 9, 5, 10, 11, 12, 13, 14, 15, 16, 17, 18, 19, 20, 21, 22, 23, 24, 25, 26, 27, 28, 29, 30, 31, 32, 33, 34, 35, 36, 37, 38, 39, 40, 41, 42, 43, 44, 45, 46, 47, 48, 49, 55, 56, 57, 58, 59, 60, 61, 62, 63, 64, 65, 66, 67, 68, 69, 70, 71, 72, 73, 74] (by decide +kernel) (by decide +kernel)
set_option maxRecDepth 20000 in
theorem gX11_goOnZones_X11_picksUp : GoodIn wsX11_goOnZones (wsV RX11 209 RX11 yX11_picksUp wsX11_picksUp) := goodIn_app (goodIn_of _ (by decide +kernel)) ggX11_goOnZones_X11_picksUp
set_option maxRecDepth 20000 in
theorem ggX11_goOnZones_X11_note : GoodIn wsX11_goOnZones wsX11_note := goodIn_r _ [53, 1, 54, 55, 56, 57, 58, 59, 60, 61, 62, 63, 64, 65, 66, 67, 68, 69, 70, 71, 72, 73, 74] (by decide +kernel) (by decide +kernel)
set_option maxRecDepth 20000 in
theorem gX11_goOnZones_X11_note : GoodIn wsX11_goOnZones (wsV RX11 181 RX11 yX11_note wsX11_note) := goodIn_app (goodIn_of _ (by decide +kernel)) ggX11_goOnZones_X11_note
theorem dX11_goOnZones_0 : decode cX11_goOnZones 0 = .ok (.bipush (-6), 2) := by decide +kernel
theorem dX11_goOnZones_2 : decode cX11_goOnZones 2 = .ok (.istore_n 1, 1) := by decide +kernel
theorem dX11_goOnZones_3 : decode cX11_goOnZones 3 = .ok (.iconst 2, 1) := by decide +kernel
theorem dX11_goOnZones_4 : decode cX11_goOnZones 4 = .ok (.istore_n 2, 1) := by decide +kernel
theorem dX11_goOnZones_5 : decode cX11_goOnZones 5 = .ok (.iload_n 2, 1) := by decide +kernel
theorem dX11_goOnZones_6 : decode cX11_goOnZones 6 = .ok (.ifCond .lt 71, 3) := by decide +kernel
theorem dX11_goOnZones_9 : decode cX11_goOnZones 9 = .ok (.aload_n 0, 1) := by decide +kernel
theorem dX11_goOnZones_10 : decode cX11_goOnZones 10 = .ok (.iload_n 2, 1) := by decide +kernel
theorem dX11_goOnZones_11 : decode cX11_goOnZones 11 = .ok (.invokevirtual 209, 3) := by decide +kernel
theorem dX11_goOnZones_14 : decode cX11_goOnZones 14 = .ok (.istore_n 3, 1) := by decide +kernel
theorem dX11_goOnZones_15 : decode cX11_goOnZones 15 = .ok (.aload_n 0, 1) := by decide +kernel
theorem dX11_goOnZones_16 : decode cX11_goOnZones 16 = .ok (.getfield 7, 3) := by decide +kernel
theorem dX11_goOnZones_19 : decode cX11_goOnZones 19 = .ok (.bipush 98, 2) := by decide +kernel
theorem dX11_goOnZones_21 : decode cX11_goOnZones 21 = .ok (.iload_n 2, 1) := by decide +kernel
theorem dX11_goOnZones_22 : decode cX11_goOnZones 22 = .ok (.iadd, 1) := by decide +kernel
theorem dX11_goOnZones_23 : decode cX11_goOnZones 23 = .ok (.iload_n 3, 1) := by decide +kernel
theorem dX11_goOnZones_24 : decode cX11_goOnZones 24 = .ok (.ifCond .eq 17, 3) := by decide +kernel
theorem dX11_goOnZones_27 : decode cX11_goOnZones 27 = .ok (.aload_n 0, 1) := by decide +kernel
theorem dX11_goOnZones_28 : decode cX11_goOnZones 28 = .ok (.getfield 7, 3) := by decide +kernel
theorem dX11_goOnZones_31 : decode cX11_goOnZones 31 = .ok (.bipush 98, 2) := by decide +kernel
theorem dX11_goOnZones_33 : decode cX11_goOnZones 33 = .ok (.iload_n 2, 1) := by decide +kernel
theorem dX11_goOnZones_34 : decode cX11_goOnZones 34 = .ok (.iadd, 1) := by decide +kernel
theorem dX11_goOnZones_35 : decode cX11_goOnZones 35 = .ok (.laload, 1) := by decide +kernel
theorem dX11_goOnZones_36 : decode cX11_goOnZones 36 = .ok (.lconst 1, 1) := by decide +kernel
theorem dX11_goOnZones_37 : decode cX11_goOnZones 37 = .ok (.ladd, 1) := by decide +kernel
theorem dX11_goOnZones_38 : decode cX11_goOnZones 38 = .ok (.goto 4, 3) := by decide +kernel
theorem dX11_goOnZones_41 : decode cX11_goOnZones 41 = .ok (.lconst 0, 1) := by decide +kernel
theorem dX11_goOnZones_42 : decode cX11_goOnZones 42 = .ok (.lastore, 1) := by decide +kernel
theorem dX11_goOnZones_43 : decode cX11_goOnZones 43 = .ok (.aload_n 0, 1) := by decide +kernel
theorem dX11_goOnZones_44 : decode cX11_goOnZones 44 = .ok (.getfield 7, 3) := by decide +kernel
theorem dX11_goOnZones_47 : decode cX11_goOnZones 47 = .ok (.bipush 98, 2) := by decide +kernel
theorem dX11_goOnZones_49 : decode cX11_goOnZones 49 = .ok (.iload_n 2, 1) := by decide +kernel
theorem dX11_goOnZones_50 : decode cX11_goOnZones 50 = .ok (.iadd, 1) := by decide +kernel
theorem dX11_goOnZones_51 : decode cX11_goOnZones 51 = .ok (.laload, 1) := by decide +kernel
theorem dX11_goOnZones_52 : decode cX11_goOnZones 52 = .ok (.aload_n 0, 1) := by decide +kernel
theorem dX11_goOnZones_53 : decode cX11_goOnZones 53 = .ok (.getfield 7, 3) := by decide +kernel
theorem dX11_goOnZones_56 : decode cX11_goOnZones 56 = .ok (.bipush 29, 2) := by decide +kernel
theorem dX11_goOnZones_58 : decode cX11_goOnZones 58 = .ok (.iload_n 2, 1) := by decide +kernel
theorem dX11_goOnZones_59 : decode cX11_goOnZones 59 = .ok (.iadd, 1) := by decide +kernel
theorem dX11_goOnZones_60 : decode cX11_goOnZones 60 = .ok (.laload, 1) := by decide +kernel
theorem dX11_goOnZones_61 : decode cX11_goOnZones 61 = .ok (.lcmp, 1) := by decide +kernel
theorem dX11_goOnZones_62 : decode cX11_goOnZones 62 = .ok (.ifCond .lt 7, 3) := by decide +kernel
theorem dX11_goOnZones_65 : decode cX11_goOnZones 65 = .ok (.iload_n 2, 1) := by decide +kernel
theorem dX11_goOnZones_66 : decode cX11_goOnZones 66 = .ok (.goto 4, 3) := by decide +kernel
theorem dX11_goOnZones_69 : decode cX11_goOnZones 69 = .ok (.iload_n 1, 1) := by decide +kernel
theorem dX11_goOnZones_70 : decode cX11_goOnZones 70 = .ok (.istore_n 1, 1) := by decide +kernel
theorem dX11_goOnZones_71 : decode cX11_goOnZones 71 = .ok (.iinc 2 (-1), 3) := by decide +kernel
theorem dX11_goOnZones_74 : decode cX11_goOnZones 74 = .ok (.goto (-69), 3) := by decide +kernel
theorem dX11_goOnZones_77 : decode cX11_goOnZones 77 = .ok (.iconst 0, 1) := by decide +kernel
theorem dX11_goOnZones_78 : decode cX11_goOnZones 78 = .ok (.istore_n 2, 1) := by decide +kernel
theorem dX11_goOnZones_79 : decode cX11_goOnZones 79 = .ok (.iload_n 2, 1) := by decide +kernel
theorem dX11_goOnZones_80 : decode cX11_goOnZones 80 = .ok (.iconst 3, 1) := by decide +kernel
theorem dX11_goOnZones_81 : decode cX11_goOnZones 81 = .ok (.if_icmp .ge 72, 3) := by decide +kernel
theorem dX11_goOnZones_84 : decode cX11_goOnZones 84 = .ok (.aload_n 0, 1) := by decide +kernel
theorem dX11_goOnZones_85 : decode cX11_goOnZones 85 = .ok (.getfield 7, 3) := by decide +kernel
theorem dX11_goOnZones_88 : decode cX11_goOnZones 88 = .ok (.bipush 98, 2) := by decide +kernel
theorem dX11_goOnZones_90 : decode cX11_goOnZones 90 = .ok (.iload_n 2, 1) := by decide +kernel
theorem dX11_goOnZones_91 : decode cX11_goOnZones 91 = .ok (.iadd, 1) := by decide +kernel
theorem dX11_goOnZones_92 : decode cX11_goOnZones 92 = .ok (.laload, 1) := by decide +kernel
theorem dX11_goOnZones_93 : decode cX11_goOnZones 93 = .ok (.lconst 0, 1) := by decide +kernel
theorem dX11_goOnZones_94 : decode cX11_goOnZones 94 = .ok (.lcmp, 1) := by decide +kernel
theorem dX11_goOnZones_95 : decode cX11_goOnZones 95 = .ok (.ifCond .le 7, 3) := by decide +kernel
theorem dX11_goOnZones_98 : decode cX11_goOnZones 98 = .ok (.lconst 1, 1) := by decide +kernel
theorem dX11_goOnZones_99 : decode cX11_goOnZones 99 = .ok (.goto 4, 3) := by decide +kernel
theorem dX11_goOnZones_102 : decode cX11_goOnZones 102 = .ok (.lconst 0, 1) := by decide +kernel
theorem dX11_goOnZones_103 : decode cX11_goOnZones 103 = .ok (.lstore_n 3, 1) := by decide +kernel
theorem dX11_goOnZones_104 : decode cX11_goOnZones 104 = .ok (.lload_n 3, 1) := by decide +kernel
theorem dX11_goOnZones_105 : decode cX11_goOnZones 105 = .ok (.aload_n 0, 1) := by decide +kernel
theorem dX11_goOnZones_106 : decode cX11_goOnZones 106 = .ok (.getfield 7, 3) := by decide +kernel
theorem dX11_goOnZones_109 : decode cX11_goOnZones 109 = .ok (.bipush 101, 2) := by decide +kernel
theorem dX11_goOnZones_111 : decode cX11_goOnZones 111 = .ok (.iload_n 2, 1) := by decide +kernel
theorem dX11_goOnZones_112 : decode cX11_goOnZones 112 = .ok (.iadd, 1) := by decide +kernel
theorem dX11_goOnZones_113 : decode cX11_goOnZones 113 = .ok (.laload, 1) := by decide +kernel
theorem dX11_goOnZones_114 : decode cX11_goOnZones 114 = .ok (.lcmp, 1) := by decide +kernel
theorem dX11_goOnZones_115 : decode cX11_goOnZones 115 = .ok (.ifCond .eq 22, 3) := by decide +kernel
theorem dX11_goOnZones_118 : decode cX11_goOnZones 118 = .ok (.aload_n 0, 1) := by decide +kernel
theorem dX11_goOnZones_119 : decode cX11_goOnZones 119 = .ok (.lload_n 3, 1) := by decide +kernel
theorem dX11_goOnZones_120 : decode cX11_goOnZones 120 = .ok (.lconst 1, 1) := by decide +kernel
theorem dX11_goOnZones_121 : decode cX11_goOnZones 121 = .ok (.lcmp, 1) := by decide +kernel
theorem dX11_goOnZones_122 : decode cX11_goOnZones 122 = .ok (.ifCond .ne 8, 3) := by decide +kernel
theorem dX11_goOnZones_125 : decode cX11_goOnZones 125 = .ok (.bipush 10, 2) := by decide +kernel
theorem dX11_goOnZones_127 : decode cX11_goOnZones 127 = .ok (.goto 5, 3) := by decide +kernel
theorem dX11_goOnZones_130 : decode cX11_goOnZones 130 = .ok (.bipush 20, 2) := by decide +kernel
theorem dX11_goOnZones_132 : decode cX11_goOnZones 132 = .ok (.iload_n 2, 1) := by decide +kernel
theorem dX11_goOnZones_133 : decode cX11_goOnZones 133 = .ok (.iadd, 1) := by decide +kernel
theorem dX11_goOnZones_134 : decode cX11_goOnZones 134 = .ok (.invokevirtual 181, 3) := by decide +kernel
theorem dX11_goOnZones_137 : decode cX11_goOnZones 137 = .ok (.aload_n 0, 1) := by decide +kernel
theorem dX11_goOnZones_138 : decode cX11_goOnZones 138 = .ok (.getfield 7, 3) := by decide +kernel
theorem dX11_goOnZones_141 : decode cX11_goOnZones 141 = .ok (.bipush 101, 2) := by decide +kernel
theorem dX11_goOnZones_143 : decode cX11_goOnZones 143 = .ok (.iload_n 2, 1) := by decide +kernel
theorem dX11_goOnZones_144 : decode cX11_goOnZones 144 = .ok (.iadd, 1) := by decide +kernel
theorem dX11_goOnZones_145 : decode cX11_goOnZones 145 = .ok (.lload_n 3, 1) := by decide +kernel
theorem dX11_goOnZones_146 : decode cX11_goOnZones 146 = .ok (.lastore, 1) := by decide +kernel
theorem dX11_goOnZones_147 : decode cX11_goOnZones 147 = .ok (.iinc 2 1, 3) := by decide +kernel
theorem dX11_goOnZones_150 : decode cX11_goOnZones 150 = .ok (.goto (-71), 3) := by decide +kernel
theorem dX11_goOnZones_153 : decode cX11_goOnZones 153 = .ok (.aload_n 0, 1) := by decide +kernel
theorem dX11_goOnZones_154 : decode cX11_goOnZones 154 = .ok (.getfield 7, 3) := by decide +kernel
theorem dX11_goOnZones_157 : decode cX11_goOnZones 157 = .ok (.bipush 97, 2) := by decide +kernel
theorem dX11_goOnZones_159 : decode cX11_goOnZones 159 = .ok (.laload, 1) := by decide +kernel
theorem dX11_goOnZones_160 : decode cX11_goOnZones 160 = .ok (.lconst 0, 1) := by decide +kernel
theorem dX11_goOnZones_161 : decode cX11_goOnZones 161 = .ok (.lcmp, 1) := by decide +kernel
theorem dX11_goOnZones_162 : decode cX11_goOnZones 162 = .ok (.ifCond .ge 24, 3) := by decide +kernel
theorem dX11_goOnZones_165 : decode cX11_goOnZones 165 = .ok (.iload_n 1, 1) := by decide +kernel
theorem dX11_goOnZones_166 : decode cX11_goOnZones 166 = .ok (.ifCond .lt 20, 3) := by decide +kernel
theorem dX11_goOnZones_169 : decode cX11_goOnZones 169 = .ok (.aload_n 0, 1) := by decide +kernel
theorem dX11_goOnZones_170 : decode cX11_goOnZones 170 = .ok (.getfield 7, 3) := by decide +kernel
theorem dX11_goOnZones_173 : decode cX11_goOnZones 173 = .ok (.bipush 97, 2) := by decide +kernel
theorem dX11_goOnZones_175 : decode cX11_goOnZones 175 = .ok (.iload_n 1, 1) := by decide +kernel
theorem dX11_goOnZones_176 : decode cX11_goOnZones 176 = .ok (.i2l, 1) := by decide +kernel
theorem dX11_goOnZones_177 : decode cX11_goOnZones 177 = .ok (.lastore, 1) := by decide +kernel
theorem dX11_goOnZones_178 : decode cX11_goOnZones 178 = .ok (.aload_n 0, 1) := by decide +kernel
theorem dX11_goOnZones_179 : decode cX11_goOnZones 179 = .ok (.bipush 30, 2) := by decide +kernel
theorem dX11_goOnZones_181 : decode cX11_goOnZones 181 = .ok (.iload_n 1, 1) := by decide +kernel
theorem dX11_goOnZones_182 : decode cX11_goOnZones 182 = .ok (.iadd, 1) := by decide +kernel
theorem dX11_goOnZones_183 : decode cX11_goOnZones 183 = .ok (.invokevirtual 181, 3) := by decide +kernel
theorem dX11_goOnZones_186 : decode cX11_goOnZones 186 = .ok (.return_, 1) := by decide +kernel
set_option maxRecDepth 20000 in
theorem ggX11_sample_X11_goOnRamp : GoodIn wsX11_sample wsX11_goOnRamp := goodIn_r _ [9, 1, 104, 105, 106, 107, 108, 109, 110, 111, 112, 113, 114, 115, 116, 117, 118, 119, 120, 121, 122, 123] (by decide +kernel) (by decide +kernel)
set_option maxRecDepth 20000 in
theorem gX11_sample_X11_goOnRamp : GoodIn wsX11_sample (wsV RX11 212 RX11 yX11_goOnRamp wsX11_goOnRamp) := goodIn_app (goodIn_of _ (by decide +kernel)) ggX11_sample_X11_goOnRamp
set_option maxRecDepth 20000 in
theorem ggX11_sample_X11_takeSample : GoodIn wsX11_sample wsX11_takeSample := goodIn_r _ [13, 1, 14, 15, 16, 17, 18, 19, 8, 20, 21, 104, 105, 106, 107, 108, 109, 110, 111, 112, 113, 114, 115, 116, 117, 118, 119, 120, 121, 122, 123] (by decide +kernel) (by decide +kernel)
set_option maxRecDepth 20000 in
theorem gX11_sample_X11_takeSample : GoodIn wsX11_sample (wsV RX11 215 RX11 yX11_takeSample wsX11_takeSample) := goodIn_app (goodIn_of _ (by decide +kernel)) ggX11_sample_X11_takeSample
set_option maxRecDepth 20000 in
theorem ggX11_sample_X11_estimate : GoodIn wsX11_sample wsX11_estimate := goodIn_r _ [25, 1, 15, 26, 17, 18, 19, 8, 20, 21, 14, 104, 105, 106, 107, 108, 109, 110, 111, 112, 113, 114, 115, 116, 117, 118, 119, 120, 121, 122, 123] (by decide +kernel) (by decide +kernel)
set_option maxRecDepth 20000 in
theorem gX11_sample_X11_estimate : GoodIn wsX11_sample (wsV RX11 219 RX11 yX11_estimate wsX11_estimate) := goodIn_app (goodIn_of _ (by decide +kernel)) ggX11_sample_X11_estimate
set_option maxRecDepth 20000 in
theorem ggX11_sample_X11_remember : GoodIn wsX11_sample wsX11_remember := goodIn_r _ [30, 1, 104, 105, 106, 107, 108, 109, 110, 111, 112, 113, 114, 115, 116, 117, 118, 119, 120, 121, 122, 123] (by decide +kernel) (by decide +kernel)
set_option maxRecDepth 20000 in
theorem gX11_sample_X11_remember : GoodIn wsX11_sample (wsV RX11 222 RX11 yX11_remember wsX11_remember) := goodIn_app (goodIn_of _ (by decide +kernel)) ggX11_sample_X11_remember
set_option maxRecDepth 20000 in
theorem ggX11_sample_X11_laysPoint : GoodIn wsX11_sample wsX11_laysPoint := goodIn_r _ [34, 35, 2, 4, 3, 1, 104, 105, 106, 107, 108, 109, 110, 111, 112, 113, 114, 115, 116, 117, 118, 119, 120, 121, 122, 123] (by decide +kernel) (by decide +kernel)
set_option maxRecDepth 20000 in
theorem gX11_sample_X11_laysPoint : GoodIn wsX11_sample (wsV RX11 225 RX11 yX11_laysPoint wsX11_laysPoint) := goodIn_app (goodIn_of _ (by decide +kernel)) ggX11_sample_X11_laysPoint
set_option maxRecDepth 20000 in
theorem ggX11_sample_X11_isInLoad : GoodIn wsX11_sample wsX11_isInLoad := goodIn_r _ [39, 2, 1, 3, 4, 35, 40, 41, 8, 42, 104, 105, 106, 107, 108, 109, 110, 111, 112, 113, 114, 115, 116, 117, 118, 119, 120, 121, 122, 123] (by decide +kernel) (by decide +kernel)
set_option maxRecDepth 20000 in
theorem gX11_sample_X11_isInLoad : GoodIn wsX11_sample (wsV RX11 229 RX11 yX11_isInLoad wsX11_isInLoad) := goodIn_app (goodIn_of _ (by decide +kernel)) ggX11_sample_X11_isInLoad
set_option maxRecDepth 20000 in
theorem ggX11_sample_X11_watchSwing : GoodIn wsX11_sample wsX11_watchSwing := goodIn_r _ [46, 1, 47, 48, 49, 8, 50, 2, 4, 3, 51, 52, 53, 54, 55, 56, 57, 58, 59, 60, 61, 62, 63, 64, 65, 66, 67, 68, 69, 70, 71, 72, 73, 74, 75, 76, 77, 78, 79, 80, 81, 82, 83, 84, 85, 86, 104, 105, 106, 107, 108, 109, 110, 111, 112, 113, 114, 115, 116, 117, 118, 119, 120, 121, 122, 123] (by decide +kernel) (by decide +kernel)
set_option maxRecDepth 20000 in
theorem gX11_sample_X11_watchSwing : GoodIn wsX11_sample (wsV RX11 232 RX11 yX11_watchSwing wsX11_watchSwing) := goodIn_app (goodIn_of _ (by decide +kernel)) ggX11_sample_X11_watchSwing
set_option maxRecDepth 20000 in
theorem ggX11_sample_X11_endSwing : GoodIn wsX11_sample wsX11_endSwing := goodIn_r _ [81, 1, 82, 83, 84, 8, 85, 86, 104, 105, 106, 107, 108, 109, 110, 111, 112, 113, 114, 115, 116, 117, 118, 119, 120, 121, 122, 123] (by decide +kernel) (by decide +kernel)
set_option maxRecDepth 20000 in
theorem gX11_sample_X11_endSwing : GoodIn wsX11_sample (wsV RX11 200 RX11 yX11_endSwing wsX11_endSwing) := goodIn_app (goodIn_of _ (by decide +kernel)) ggX11_sample_X11_endSwing
set_option maxRecDepth 20000 in
theorem ggX11_sample_X11_goOnZones : GoodIn wsX11_sample wsX11_goOnZones := goodIn_r _ [90, 1, 91, 92, 93, 8, 94, 95, 96, 97, 98, 47, 48, 49, 50, 2, 4, 3, 51, 52, 53, 54, 55, 56, 57, 58, 59, 60, 61, 62, 63, 64, 65, 66, 67, 68, 69, 70, 71, 72, 73, 74, 75, 76, 77, 99, 100, 101, 102, 103, 82, 83, 84, 85, 86, 104, 105, 106, 107, 108, 109, 110, 111, 112, 113, 114, 115, 116, 117, 118, 119, 120, 121, 122, 123] (by decide +kernel) (by decide +kernel)
set_option maxRecDepth 20000 in
theorem gX11_sample_X11_goOnZones : GoodIn wsX11_sample (wsV RX11 235 RX11 yX11_goOnZones wsX11_goOnZones) := goodIn_app (goodIn_of _ (by decide +kernel)) ggX11_sample_X11_goOnZones
theorem dX11_sample_0 : decode cX11_sample 0 = .ok (.aload_n 0, 1) := by decide +kernel
theorem dX11_sample_1 : decode cX11_sample 1 = .ok (.invokevirtual 212, 3) := by decide +kernel
theorem dX11_sample_4 : decode cX11_sample 4 = .ok (.aload_n 0, 1) := by decide +kernel
theorem dX11_sample_5 : decode cX11_sample 5 = .ok (.bipush 36, 2) := by decide +kernel
theorem dX11_sample_7 : decode cX11_sample 7 = .ok (.iconst 0, 1) := by decide +kernel
theorem dX11_sample_8 : decode cX11_sample 8 = .ok (.invokevirtual 215, 3) := by decide +kernel
theorem dX11_sample_11 : decode cX11_sample 11 = .ok (.aload_n 0, 1) := by decide +kernel
theorem dX11_sample_12 : decode cX11_sample 12 = .ok (.bipush 60, 2) := by decide +kernel
theorem dX11_sample_14 : decode cX11_sample 14 = .ok (.iconst 2, 1) := by decide +kernel
theorem dX11_sample_15 : decode cX11_sample 15 = .ok (.invokevirtual 215, 3) := by decide +kernel
theorem dX11_sample_18 : decode cX11_sample 18 = .ok (.aload_n 0, 1) := by decide +kernel
theorem dX11_sample_19 : decode cX11_sample 19 = .ok (.bipush 36, 2) := by decide +kernel
theorem dX11_sample_21 : decode cX11_sample 21 = .ok (.bipush 84, 2) := by decide +kernel
theorem dX11_sample_23 : decode cX11_sample 23 = .ok (.invokevirtual 219, 3) := by decide +kernel
theorem dX11_sample_26 : decode cX11_sample 26 = .ok (.aload_n 0, 1) := by decide +kernel
theorem dX11_sample_27 : decode cX11_sample 27 = .ok (.bipush 60, 2) := by decide +kernel
theorem dX11_sample_29 : decode cX11_sample 29 = .ok (.bipush 86, 2) := by decide +kernel
theorem dX11_sample_31 : decode cX11_sample 31 = .ok (.invokevirtual 219, 3) := by decide +kernel
theorem dX11_sample_34 : decode cX11_sample 34 = .ok (.aload_n 0, 1) := by decide +kernel
theorem dX11_sample_35 : decode cX11_sample 35 = .ok (.invokevirtual 222, 3) := by decide +kernel
theorem dX11_sample_38 : decode cX11_sample 38 = .ok (.aload_n 0, 1) := by decide +kernel
theorem dX11_sample_39 : decode cX11_sample 39 = .ok (.aload_n 0, 1) := by decide +kernel
theorem dX11_sample_40 : decode cX11_sample 40 = .ok (.getfield 7, 3) := by decide +kernel
theorem dX11_sample_43 : decode cX11_sample 43 = .ok (.bipush 84, 2) := by decide +kernel
theorem dX11_sample_45 : decode cX11_sample 45 = .ok (.laload, 1) := by decide +kernel
theorem dX11_sample_46 : decode cX11_sample 46 = .ok (.aload_n 0, 1) := by decide +kernel
theorem dX11_sample_47 : decode cX11_sample 47 = .ok (.getfield 7, 3) := by decide +kernel
theorem dX11_sample_50 : decode cX11_sample 50 = .ok (.bipush 85, 2) := by decide +kernel
theorem dX11_sample_52 : decode cX11_sample 52 = .ok (.laload, 1) := by decide +kernel
theorem dX11_sample_53 : decode cX11_sample 53 = .ok (.aload_n 0, 1) := by decide +kernel
theorem dX11_sample_54 : decode cX11_sample 54 = .ok (.getfield 7, 3) := by decide +kernel
theorem dX11_sample_57 : decode cX11_sample 57 = .ok (.bipush 86, 2) := by decide +kernel
theorem dX11_sample_59 : decode cX11_sample 59 = .ok (.laload, 1) := by decide +kernel
theorem dX11_sample_60 : decode cX11_sample 60 = .ok (.aload_n 0, 1) := by decide +kernel
theorem dX11_sample_61 : decode cX11_sample 61 = .ok (.getfield 7, 3) := by decide +kernel
theorem dX11_sample_64 : decode cX11_sample 64 = .ok (.bipush 87, 2) := by decide +kernel
theorem dX11_sample_66 : decode cX11_sample 66 = .ok (.laload, 1) := by decide +kernel
theorem dX11_sample_67 : decode cX11_sample 67 = .ok (.invokevirtual 225, 3) := by decide +kernel
theorem dX11_sample_70 : decode cX11_sample 70 = .ok (.istore_n 1, 1) := by decide +kernel
theorem dX11_sample_71 : decode cX11_sample 71 = .ok (.aload_n 0, 1) := by decide +kernel
theorem dX11_sample_72 : decode cX11_sample 72 = .ok (.getfield 7, 3) := by decide +kernel
theorem dX11_sample_75 : decode cX11_sample 75 = .ok (.bipush 91, 2) := by decide +kernel
theorem dX11_sample_77 : decode cX11_sample 77 = .ok (.iload_n 1, 1) := by decide +kernel
theorem dX11_sample_78 : decode cX11_sample 78 = .ok (.ifCond .eq 7, 3) := by decide +kernel
theorem dX11_sample_81 : decode cX11_sample 81 = .ok (.lconst 1, 1) := by decide +kernel
theorem dX11_sample_82 : decode cX11_sample 82 = .ok (.goto 4, 3) := by decide +kernel
theorem dX11_sample_85 : decode cX11_sample 85 = .ok (.lconst 0, 1) := by decide +kernel
theorem dX11_sample_86 : decode cX11_sample 86 = .ok (.lastore, 1) := by decide +kernel
theorem dX11_sample_87 : decode cX11_sample 87 = .ok (.aload_n 0, 1) := by decide +kernel
theorem dX11_sample_88 : decode cX11_sample 88 = .ok (.getfield 7, 3) := by decide +kernel
theorem dX11_sample_91 : decode cX11_sample 91 = .ok (.bipush 92, 2) := by decide +kernel
theorem dX11_sample_93 : decode cX11_sample 93 = .ok (.iload_n 1, 1) := by decide +kernel
theorem dX11_sample_94 : decode cX11_sample 94 = .ok (.ifCond .eq 15, 3) := by decide +kernel
theorem dX11_sample_97 : decode cX11_sample 97 = .ok (.aload_n 0, 1) := by decide +kernel
theorem dX11_sample_98 : decode cX11_sample 98 = .ok (.getfield 185, 3) := by decide +kernel
theorem dX11_sample_101 : decode cX11_sample 101 = .ok (.aload_n 0, 1) := by decide +kernel
theorem dX11_sample_102 : decode cX11_sample 102 = .ok (.getfield 191, 3) := by decide +kernel
theorem dX11_sample_105 : decode cX11_sample 105 = .ok (.ldiv, 1) := by decide +kernel
theorem dX11_sample_106 : decode cX11_sample 106 = .ok (.goto 4, 3) := by decide +kernel
theorem dX11_sample_109 : decode cX11_sample 109 = .ok (.lconst 0, 1) := by decide +kernel
theorem dX11_sample_110 : decode cX11_sample 110 = .ok (.lastore, 1) := by decide +kernel
theorem dX11_sample_111 : decode cX11_sample 111 = .ok (.aload_n 0, 1) := by decide +kernel
theorem dX11_sample_112 : decode cX11_sample 112 = .ok (.getfield 7, 3) := by decide +kernel
theorem dX11_sample_115 : decode cX11_sample 115 = .ok (.bipush 93, 2) := by decide +kernel
theorem dX11_sample_117 : decode cX11_sample 117 = .ok (.iload_n 1, 1) := by decide +kernel
theorem dX11_sample_118 : decode cX11_sample 118 = .ok (.ifCond .eq 15, 3) := by decide +kernel
theorem dX11_sample_121 : decode cX11_sample 121 = .ok (.aload_n 0, 1) := by decide +kernel
theorem dX11_sample_122 : decode cX11_sample 122 = .ok (.getfield 188, 3) := by decide +kernel
theorem dX11_sample_125 : decode cX11_sample 125 = .ok (.aload_n 0, 1) := by decide +kernel
theorem dX11_sample_126 : decode cX11_sample 126 = .ok (.getfield 191, 3) := by decide +kernel
theorem dX11_sample_129 : decode cX11_sample 129 = .ok (.ldiv, 1) := by decide +kernel
theorem dX11_sample_130 : decode cX11_sample 130 = .ok (.goto 4, 3) := by decide +kernel
theorem dX11_sample_133 : decode cX11_sample 133 = .ok (.lconst 0, 1) := by decide +kernel
theorem dX11_sample_134 : decode cX11_sample 134 = .ok (.lastore, 1) := by decide +kernel
theorem dX11_sample_135 : decode cX11_sample 135 = .ok (.aload_n 0, 1) := by decide +kernel
theorem dX11_sample_136 : decode cX11_sample 136 = .ok (.getfield 7, 3) := by decide +kernel
theorem dX11_sample_139 : decode cX11_sample 139 = .ok (.bipush 96, 2) := by decide +kernel
theorem dX11_sample_141 : decode cX11_sample 141 = .ok (.iload_n 1, 1) := by decide +kernel
theorem dX11_sample_142 : decode cX11_sample 142 = .ok (.ifCond .eq 14, 3) := by decide +kernel
theorem dX11_sample_145 : decode cX11_sample 145 = .ok (.aload_n 0, 1) := by decide +kernel
theorem dX11_sample_146 : decode cX11_sample 146 = .ok (.invokevirtual 229, 3) := by decide +kernel
theorem dX11_sample_149 : decode cX11_sample 149 = .ok (.ifCond .eq 7, 3) := by decide +kernel
theorem dX11_sample_152 : decode cX11_sample 152 = .ok (.lconst 1, 1) := by decide +kernel
theorem dX11_sample_153 : decode cX11_sample 153 = .ok (.goto 4, 3) := by decide +kernel
theorem dX11_sample_156 : decode cX11_sample 156 = .ok (.lconst 0, 1) := by decide +kernel
theorem dX11_sample_157 : decode cX11_sample 157 = .ok (.lastore, 1) := by decide +kernel
theorem dX11_sample_158 : decode cX11_sample 158 = .ok (.iload_n 1, 1) := by decide +kernel
theorem dX11_sample_159 : decode cX11_sample 159 = .ok (.ifCond .eq 10, 3) := by decide +kernel
theorem dX11_sample_162 : decode cX11_sample 162 = .ok (.aload_n 0, 1) := by decide +kernel
theorem dX11_sample_163 : decode cX11_sample 163 = .ok (.invokevirtual 232, 3) := by decide +kernel
theorem dX11_sample_166 : decode cX11_sample 166 = .ok (.goto 7, 3) := by decide +kernel
theorem dX11_sample_169 : decode cX11_sample 169 = .ok (.aload_n 0, 1) := by decide +kernel
theorem dX11_sample_170 : decode cX11_sample 170 = .ok (.invokevirtual 200, 3) := by decide +kernel
theorem dX11_sample_173 : decode cX11_sample 173 = .ok (.aload_n 0, 1) := by decide +kernel
theorem dX11_sample_174 : decode cX11_sample 174 = .ok (.invokevirtual 235, 3) := by decide +kernel
theorem dX11_sample_177 : decode cX11_sample 177 = .ok (.aload_n 0, 1) := by decide +kernel
theorem dX11_sample_178 : decode cX11_sample 178 = .ok (.getfield 7, 3) := by decide +kernel
theorem dX11_sample_181 : decode cX11_sample 181 = .ok (.bipush 35, 2) := by decide +kernel
theorem dX11_sample_183 : decode cX11_sample 183 = .ok (.dup2, 1) := by decide +kernel
theorem dX11_sample_184 : decode cX11_sample 184 = .ok (.laload, 1) := by decide +kernel
theorem dX11_sample_185 : decode cX11_sample 185 = .ok (.lconst 1, 1) := by decide +kernel
theorem dX11_sample_186 : decode cX11_sample 186 = .ok (.ladd, 1) := by decide +kernel
theorem dX11_sample_187 : decode cX11_sample 187 = .ok (.lastore, 1) := by decide +kernel
theorem dX11_sample_188 : decode cX11_sample 188 = .ok (.return_, 1) := by decide +kernel
set_option maxRecDepth 20000 in
theorem ggX11_pass_X11_in : GoodIn wsX11_pass wsX11_in := goodIn_r _ [7] (by decide +kernel) (by decide +kernel)
set_option maxRecDepth 20000 in
theorem gX11_pass_X11_in : GoodIn wsX11_pass (va_wsS RX11 68 yX11_in wsX11_in) := goodIn_app (goodIn_of _ (by decide +kernel)) ggX11_pass_X11_in
set_option maxRecDepth 20000 in
theorem ggX11_pass_X11_sample : GoodIn wsX11_pass wsX11_sample := goodIn_r _ [11, 2, 12, 13, 14, 15, 16, 17, 6, 18, 19, 20, 21, 22, 23, 24, 25, 26, 27, 28, 29, 30, 31, 32, 33, 34, 35, 36, 37, 38, 39, 40, 41, 42, 43, 44, 45, 46, 47, 48, 49, 50, 51, 52, 53, 54, 55, 56, 57, 58, 59, 60, 61, 62, 63, 64, 65, 66, 67, 68, 69, 70, 71, 72, 73, 74, 75, 76, 77, 78, 79, 80, 81, 82, 83, 84, 85, 86, 87, 88, 89, 90, 91, 92, 93, 94, 95, 96, 97, 98, 99, 100, 101, 102, 103, 104, 105, 106, 107, 108, 109, 110, 111, 112, 113, 114, 115, 116, 117, 118, 119, 120, 121, 122, 123, 124, 125, 126, 127, 128, 129, 130, 131, 132] (by decide +kernel) (by decide +kernel)
set_option maxRecDepth 20000 in
theorem gX11_pass_X11_sample : GoodIn wsX11_pass (wsV RX11 240 RX11 yX11_sample wsX11_sample) := goodIn_app (goodIn_of _ (by decide +kernel)) ggX11_pass_X11_sample
theorem dX11_pass_0 : decode cX11_pass 0 = .ok (.iload_n 1, 1) := by decide +kernel
theorem dX11_pass_1 : decode cX11_pass 1 = .ok (.i2l, 1) := by decide +kernel
theorem dX11_pass_2 : decode cX11_pass 2 = .ok (.lconst 1, 1) := by decide +kernel
theorem dX11_pass_3 : decode cX11_pass 3 = .ok (.ldc2_w 48, 3) := by decide +kernel
theorem dX11_pass_6 : decode cX11_pass 6 = .ok (.invokestatic 68, 3) := by decide +kernel
theorem dX11_pass_9 : decode cX11_pass 9 = .ok (.ifCond .ne 6, 3) := by decide +kernel
theorem dX11_pass_12 : decode cX11_pass 12 = .ok (.bipush (-2), 2) := by decide +kernel
theorem dX11_pass_14 : decode cX11_pass 14 = .ok (.ireturn, 1) := by decide +kernel
theorem dX11_pass_15 : decode cX11_pass 15 = .ok (.aload_n 0, 1) := by decide +kernel
theorem dX11_pass_16 : decode cX11_pass 16 = .ok (.getfield 7, 3) := by decide +kernel
theorem dX11_pass_19 : decode cX11_pass 19 = .ok (.bipush 35, 2) := by decide +kernel
theorem dX11_pass_21 : decode cX11_pass 21 = .ok (.laload, 1) := by decide +kernel
theorem dX11_pass_22 : decode cX11_pass 22 = .ok (.iload_n 1, 1) := by decide +kernel
theorem dX11_pass_23 : decode cX11_pass 23 = .ok (.i2l, 1) := by decide +kernel
theorem dX11_pass_24 : decode cX11_pass 24 = .ok (.ladd, 1) := by decide +kernel
theorem dX11_pass_25 : decode cX11_pass 25 = .ok (.ldc2_w 238, 3) := by decide +kernel
theorem dX11_pass_28 : decode cX11_pass 28 = .ok (.lcmp, 1) := by decide +kernel
theorem dX11_pass_29 : decode cX11_pass 29 = .ok (.ifCond .le 6, 3) := by decide +kernel
theorem dX11_pass_32 : decode cX11_pass 32 = .ok (.bipush (-5), 2) := by decide +kernel
theorem dX11_pass_34 : decode cX11_pass 34 = .ok (.ireturn, 1) := by decide +kernel
theorem dX11_pass_35 : decode cX11_pass 35 = .ok (.iconst 0, 1) := by decide +kernel
theorem dX11_pass_36 : decode cX11_pass 36 = .ok (.istore_n 2, 1) := by decide +kernel
theorem dX11_pass_37 : decode cX11_pass 37 = .ok (.iload_n 2, 1) := by decide +kernel
theorem dX11_pass_38 : decode cX11_pass 38 = .ok (.iload_n 1, 1) := by decide +kernel
theorem dX11_pass_39 : decode cX11_pass 39 = .ok (.if_icmp .ge 13, 3) := by decide +kernel
theorem dX11_pass_42 : decode cX11_pass 42 = .ok (.aload_n 0, 1) := by decide +kernel
theorem dX11_pass_43 : decode cX11_pass 43 = .ok (.invokevirtual 240, 3) := by decide +kernel
theorem dX11_pass_46 : decode cX11_pass 46 = .ok (.iinc 2 1, 3) := by decide +kernel
theorem dX11_pass_49 : decode cX11_pass 49 = .ok (.goto (-12), 3) := by decide +kernel
theorem dX11_pass_52 : decode cX11_pass 52 = .ok (.aload_n 0, 1) := by decide +kernel
theorem dX11_pass_53 : decode cX11_pass 53 = .ok (.getfield 7, 3) := by decide +kernel
theorem dX11_pass_56 : decode cX11_pass 56 = .ok (.bipush 35, 2) := by decide +kernel
theorem dX11_pass_58 : decode cX11_pass 58 = .ok (.laload, 1) := by decide +kernel
theorem dX11_pass_59 : decode cX11_pass 59 = .ok (.l2i, 1) := by decide +kernel
theorem dX11_pass_60 : decode cX11_pass 60 = .ok (.ireturn, 1) := by decide +kernel
set_option maxRecDepth 20000 in
theorem ggX11_measure_X11_in : GoodIn wsX11_measure wsX11_in := goodIn_r _ [10] (by decide +kernel) (by decide +kernel)
set_option maxRecDepth 20000 in
theorem gX11_measure_X11_in : GoodIn wsX11_measure (va_wsS RX11 68 yX11_in wsX11_in) := goodIn_app (goodIn_of _ (by decide +kernel)) ggX11_measure_X11_in
theorem dX11_measure_0 : decode cX11_measure 0 = .ok (.iload_n 1, 1) := by decide +kernel
theorem dX11_measure_1 : decode cX11_measure 1 = .ok (.i2l, 1) := by decide +kernel
theorem dX11_measure_2 : decode cX11_measure 2 = .ok (.lconst 0, 1) := by decide +kernel
theorem dX11_measure_3 : decode cX11_measure 3 = .ok (.ldc2_w 243, 3) := by decide +kernel
theorem dX11_measure_6 : decode cX11_measure 6 = .ok (.invokestatic 68, 3) := by decide +kernel
theorem dX11_measure_9 : decode cX11_measure 9 = .ok (.ifCond .ne 7, 3) := by decide +kernel
theorem dX11_measure_12 : decode cX11_measure 12 = .ok (.ldc2_w 170, 3) := by decide +kernel
theorem dX11_measure_15 : decode cX11_measure 15 = .ok (.lreturn, 1) := by decide +kernel
theorem dX11_measure_16 : decode cX11_measure 16 = .ok (.iload_n 1, 1) := by decide +kernel
theorem dX11_measure_17 : decode cX11_measure 17 = .ok (.i2l, 1) := by decide +kernel
theorem dX11_measure_18 : decode cX11_measure 18 = .ok (.ldc2_w 245, 3) := by decide +kernel
theorem dX11_measure_21 : decode cX11_measure 21 = .ok (.ldc2_w 247, 3) := by decide +kernel
theorem dX11_measure_24 : decode cX11_measure 24 = .ok (.invokestatic 68, 3) := by decide +kernel
theorem dX11_measure_27 : decode cX11_measure 27 = .ok (.ifCond .eq 19, 3) := by decide +kernel
theorem dX11_measure_30 : decode cX11_measure 30 = .ok (.aload_n 0, 1) := by decide +kernel
theorem dX11_measure_31 : decode cX11_measure 31 = .ok (.getfield 7, 3) := by decide +kernel
theorem dX11_measure_34 : decode cX11_measure 34 = .ok (.bipush 91, 2) := by decide +kernel
theorem dX11_measure_36 : decode cX11_measure 36 = .ok (.laload, 1) := by decide +kernel
theorem dX11_measure_37 : decode cX11_measure 37 = .ok (.lconst 0, 1) := by decide +kernel
theorem dX11_measure_38 : decode cX11_measure 38 = .ok (.lcmp, 1) := by decide +kernel
theorem dX11_measure_39 : decode cX11_measure 39 = .ok (.ifCond .ne 7, 3) := by decide +kernel
theorem dX11_measure_42 : decode cX11_measure 42 = .ok (.ldc2_w 249, 3) := by decide +kernel
theorem dX11_measure_45 : decode cX11_measure 45 = .ok (.lreturn, 1) := by decide +kernel
theorem dX11_measure_46 : decode cX11_measure 46 = .ok (.aload_n 0, 1) := by decide +kernel
theorem dX11_measure_47 : decode cX11_measure 47 = .ok (.getfield 7, 3) := by decide +kernel
theorem dX11_measure_50 : decode cX11_measure 50 = .ok (.bipush 84, 2) := by decide +kernel
theorem dX11_measure_52 : decode cX11_measure 52 = .ok (.iload_n 1, 1) := by decide +kernel
theorem dX11_measure_53 : decode cX11_measure 53 = .ok (.iadd, 1) := by decide +kernel
theorem dX11_measure_54 : decode cX11_measure 54 = .ok (.laload, 1) := by decide +kernel
theorem dX11_measure_55 : decode cX11_measure 55 = .ok (.lreturn, 1) := by decide +kernel
set_option maxRecDepth 20000 in
theorem ggX11_state_X11_isZone : GoodIn wsX11_state wsX11_isZone := goodIn_r _ [5, 6, 7, 8, 4, 9] (by decide +kernel) (by decide +kernel)
set_option maxRecDepth 20000 in
theorem gX11_state_X11_isZone : GoodIn wsX11_state (va_wsS RX11 119 yX11_isZone wsX11_isZone) := goodIn_app (goodIn_of _ (by decide +kernel)) ggX11_state_X11_isZone
theorem dX11_state_0 : decode cX11_state 0 = .ok (.iload_n 1, 1) := by decide +kernel
theorem dX11_state_1 : decode cX11_state 1 = .ok (.invokestatic 119, 3) := by decide +kernel
theorem dX11_state_4 : decode cX11_state 4 = .ok (.ifCond .ne 5, 3) := by decide +kernel
theorem dX11_state_7 : decode cX11_state 7 = .ok (.iconst (-1), 1) := by decide +kernel
theorem dX11_state_8 : decode cX11_state 8 = .ok (.ireturn, 1) := by decide +kernel
theorem dX11_state_9 : decode cX11_state 9 = .ok (.aload_n 0, 1) := by decide +kernel
theorem dX11_state_10 : decode cX11_state 10 = .ok (.getfield 7, 3) := by decide +kernel
theorem dX11_state_13 : decode cX11_state 13 = .ok (.bipush 29, 2) := by decide +kernel
theorem dX11_state_15 : decode cX11_state 15 = .ok (.iload_n 1, 1) := by decide +kernel
theorem dX11_state_16 : decode cX11_state 16 = .ok (.iadd, 1) := by decide +kernel
theorem dX11_state_17 : decode cX11_state 17 = .ok (.laload, 1) := by decide +kernel
theorem dX11_state_18 : decode cX11_state 18 = .ok (.aload_n 0, 1) := by decide +kernel
theorem dX11_state_19 : decode cX11_state 19 = .ok (.getfield 7, 3) := by decide +kernel
theorem dX11_state_22 : decode cX11_state 22 = .ok (.bipush 98, 2) := by decide +kernel
theorem dX11_state_24 : decode cX11_state 24 = .ok (.iload_n 1, 1) := by decide +kernel
theorem dX11_state_25 : decode cX11_state 25 = .ok (.iadd, 1) := by decide +kernel
theorem dX11_state_26 : decode cX11_state 26 = .ok (.laload, 1) := by decide +kernel
theorem dX11_state_27 : decode cX11_state 27 = .ok (.lsub, 1) := by decide +kernel
theorem dX11_state_28 : decode cX11_state 28 = .ok (.lstore_n 3, 1) := by decide +kernel
theorem dX11_state_29 : decode cX11_state 29 = .ok (.iload_n 2, 1) := by decide +kernel
theorem dX11_state_30 : decode cX11_state 30 = .ok (.tableswitch 91 0 4 #[34, 45, 56, 69, 80], 34) := by decide +kernel
theorem dX11_state_64 : decode cX11_state 64 = .ok (.aload_n 0, 1) := by decide +kernel
theorem dX11_state_65 : decode cX11_state 65 = .ok (.getfield 7, 3) := by decide +kernel
theorem dX11_state_68 : decode cX11_state 68 = .ok (.bipush 101, 2) := by decide +kernel
theorem dX11_state_70 : decode cX11_state 70 = .ok (.iload_n 1, 1) := by decide +kernel
theorem dX11_state_71 : decode cX11_state 71 = .ok (.iadd, 1) := by decide +kernel
theorem dX11_state_72 : decode cX11_state 72 = .ok (.laload, 1) := by decide +kernel
theorem dX11_state_73 : decode cX11_state 73 = .ok (.l2i, 1) := by decide +kernel
theorem dX11_state_74 : decode cX11_state 74 = .ok (.ireturn, 1) := by decide +kernel
theorem dX11_state_75 : decode cX11_state 75 = .ok (.aload_n 0, 1) := by decide +kernel
theorem dX11_state_76 : decode cX11_state 76 = .ok (.getfield 7, 3) := by decide +kernel
theorem dX11_state_79 : decode cX11_state 79 = .ok (.bipush 98, 2) := by decide +kernel
theorem dX11_state_81 : decode cX11_state 81 = .ok (.iload_n 1, 1) := by decide +kernel
theorem dX11_state_82 : decode cX11_state 82 = .ok (.iadd, 1) := by decide +kernel
theorem dX11_state_83 : decode cX11_state 83 = .ok (.laload, 1) := by decide +kernel
theorem dX11_state_84 : decode cX11_state 84 = .ok (.l2i, 1) := by decide +kernel
theorem dX11_state_85 : decode cX11_state 85 = .ok (.ireturn, 1) := by decide +kernel
theorem dX11_state_86 : decode cX11_state 86 = .ok (.lload_n 3, 1) := by decide +kernel
theorem dX11_state_87 : decode cX11_state 87 = .ok (.lconst 0, 1) := by decide +kernel
theorem dX11_state_88 : decode cX11_state 88 = .ok (.lcmp, 1) := by decide +kernel
theorem dX11_state_89 : decode cX11_state 89 = .ok (.ifCond .le 8, 3) := by decide +kernel
theorem dX11_state_92 : decode cX11_state 92 = .ok (.lload_n 3, 1) := by decide +kernel
theorem dX11_state_93 : decode cX11_state 93 = .ok (.l2i, 1) := by decide +kernel
theorem dX11_state_94 : decode cX11_state 94 = .ok (.goto 4, 3) := by decide +kernel
theorem dX11_state_97 : decode cX11_state 97 = .ok (.iconst 0, 1) := by decide +kernel
theorem dX11_state_98 : decode cX11_state 98 = .ok (.ireturn, 1) := by decide +kernel
theorem dX11_state_99 : decode cX11_state 99 = .ok (.aload_n 0, 1) := by decide +kernel
theorem dX11_state_100 : decode cX11_state 100 = .ok (.getfield 7, 3) := by decide +kernel
theorem dX11_state_103 : decode cX11_state 103 = .ok (.bipush 29, 2) := by decide +kernel
theorem dX11_state_105 : decode cX11_state 105 = .ok (.iload_n 1, 1) := by decide +kernel
theorem dX11_state_106 : decode cX11_state 106 = .ok (.iadd, 1) := by decide +kernel
theorem dX11_state_107 : decode cX11_state 107 = .ok (.laload, 1) := by decide +kernel
theorem dX11_state_108 : decode cX11_state 108 = .ok (.l2i, 1) := by decide +kernel
theorem dX11_state_109 : decode cX11_state 109 = .ok (.ireturn, 1) := by decide +kernel
theorem dX11_state_110 : decode cX11_state 110 = .ok (.aload_n 0, 1) := by decide +kernel
theorem dX11_state_111 : decode cX11_state 111 = .ok (.getfield 7, 3) := by decide +kernel
theorem dX11_state_114 : decode cX11_state 114 = .ok (.bipush 32, 2) := by decide +kernel
theorem dX11_state_116 : decode cX11_state 116 = .ok (.iload_n 1, 1) := by decide +kernel
theorem dX11_state_117 : decode cX11_state 117 = .ok (.iadd, 1) := by decide +kernel
theorem dX11_state_118 : decode cX11_state 118 = .ok (.laload, 1) := by decide +kernel
theorem dX11_state_119 : decode cX11_state 119 = .ok (.l2i, 1) := by decide +kernel
theorem dX11_state_120 : decode cX11_state 120 = .ok (.ireturn, 1) := by decide +kernel
theorem dX11_state_121 : decode cX11_state 121 = .ok (.bipush (-2), 2) := by decide +kernel
theorem dX11_state_123 : decode cX11_state 123 = .ok (.ireturn, 1) := by decide +kernel
theorem dX11_tripped_0 : decode cX11_tripped 0 = .ok (.aload_n 0, 1) := by decide +kernel
theorem dX11_tripped_1 : decode cX11_tripped 1 = .ok (.getfield 7, 3) := by decide +kernel
theorem dX11_tripped_4 : decode cX11_tripped 4 = .ok (.bipush 97, 2) := by decide +kernel
theorem dX11_tripped_6 : decode cX11_tripped 6 = .ok (.laload, 1) := by decide +kernel
theorem dX11_tripped_7 : decode cX11_tripped 7 = .ok (.l2i, 1) := by decide +kernel
theorem dX11_tripped_8 : decode cX11_tripped 8 = .ok (.ireturn, 1) := by decide +kernel
theorem dX11_reset_0 : decode cX11_reset 0 = .ok (.aload_n 0, 1) := by decide +kernel
theorem dX11_reset_1 : decode cX11_reset 1 = .ok (.getfield 7, 3) := by decide +kernel
theorem dX11_reset_4 : decode cX11_reset 4 = .ok (.bipush 97, 2) := by decide +kernel
theorem dX11_reset_6 : decode cX11_reset 6 = .ok (.laload, 1) := by decide +kernel
theorem dX11_reset_7 : decode cX11_reset 7 = .ok (.l2i, 1) := by decide +kernel
theorem dX11_reset_8 : decode cX11_reset 8 = .ok (.istore_n 1, 1) := by decide +kernel
theorem dX11_reset_9 : decode cX11_reset 9 = .ok (.aload_n 0, 1) := by decide +kernel
theorem dX11_reset_10 : decode cX11_reset 10 = .ok (.getfield 7, 3) := by decide +kernel
theorem dX11_reset_13 : decode cX11_reset 13 = .ok (.bipush 97, 2) := by decide +kernel
theorem dX11_reset_15 : decode cX11_reset 15 = .ok (.ldc2_w 60, 3) := by decide +kernel
theorem dX11_reset_18 : decode cX11_reset 18 = .ok (.lastore, 1) := by decide +kernel
theorem dX11_reset_19 : decode cX11_reset 19 = .ok (.iconst 0, 1) := by decide +kernel
theorem dX11_reset_20 : decode cX11_reset 20 = .ok (.istore_n 2, 1) := by decide +kernel
theorem dX11_reset_21 : decode cX11_reset 21 = .ok (.iload_n 2, 1) := by decide +kernel
theorem dX11_reset_22 : decode cX11_reset 22 = .ok (.iconst 3, 1) := by decide +kernel
theorem dX11_reset_23 : decode cX11_reset 23 = .ok (.if_icmp .ge 19, 3) := by decide +kernel
theorem dX11_reset_26 : decode cX11_reset 26 = .ok (.aload_n 0, 1) := by decide +kernel
theorem dX11_reset_27 : decode cX11_reset 27 = .ok (.getfield 7, 3) := by decide +kernel
theorem dX11_reset_30 : decode cX11_reset 30 = .ok (.bipush 98, 2) := by decide +kernel
theorem dX11_reset_32 : decode cX11_reset 32 = .ok (.iload_n 2, 1) := by decide +kernel
theorem dX11_reset_33 : decode cX11_reset 33 = .ok (.iadd, 1) := by decide +kernel
theorem dX11_reset_34 : decode cX11_reset 34 = .ok (.lconst 0, 1) := by decide +kernel
theorem dX11_reset_35 : decode cX11_reset 35 = .ok (.lastore, 1) := by decide +kernel
theorem dX11_reset_36 : decode cX11_reset 36 = .ok (.iinc 2 1, 3) := by decide +kernel
theorem dX11_reset_39 : decode cX11_reset 39 = .ok (.goto (-18), 3) := by decide +kernel
theorem dX11_reset_42 : decode cX11_reset 42 = .ok (.iload_n 1, 1) := by decide +kernel
theorem dX11_reset_43 : decode cX11_reset 43 = .ok (.ireturn, 1) := by decide +kernel
set_option maxRecDepth 20000 in
theorem ggX11_event_X11_in : GoodIn wsX11_event wsX11_in := goodIn_r _ [6] (by decide +kernel) (by decide +kernel)
set_option maxRecDepth 20000 in
theorem gX11_event_X11_in : GoodIn wsX11_event (va_wsS RX11 68 yX11_in wsX11_in) := goodIn_app (goodIn_of _ (by decide +kernel)) ggX11_event_X11_in
theorem dX11_event_0 : decode cX11_event 0 = .ok (.iload_n 2, 1) := by decide +kernel
theorem dX11_event_1 : decode cX11_event 1 = .ok (.i2l, 1) := by decide +kernel
theorem dX11_event_2 : decode cX11_event 2 = .ok (.lconst 0, 1) := by decide +kernel
theorem dX11_event_3 : decode cX11_event 3 = .ok (.lconst 1, 1) := by decide +kernel
theorem dX11_event_4 : decode cX11_event 4 = .ok (.invokestatic 68, 3) := by decide +kernel
theorem dX11_event_7 : decode cX11_event 7 = .ok (.ifCond .ne 6, 3) := by decide +kernel
theorem dX11_event_10 : decode cX11_event 10 = .ok (.bipush (-2), 2) := by decide +kernel
theorem dX11_event_12 : decode cX11_event 12 = .ok (.ireturn, 1) := by decide +kernel
theorem dX11_event_13 : decode cX11_event 13 = .ok (.iload_n 1, 1) := by decide +kernel
theorem dX11_event_14 : decode cX11_event 14 = .ok (.i2l, 1) := by decide +kernel
theorem dX11_event_15 : decode cX11_event 15 = .ok (.lconst 0, 1) := by decide +kernel
theorem dX11_event_16 : decode cX11_event 16 = .ok (.aload_n 0, 1) := by decide +kernel
theorem dX11_event_17 : decode cX11_event 17 = .ok (.getfield 7, 3) := by decide +kernel
theorem dX11_event_20 : decode cX11_event 20 = .ok (.bipush 104, 2) := by decide +kernel
theorem dX11_event_22 : decode cX11_event 22 = .ok (.laload, 1) := by decide +kernel
theorem dX11_event_23 : decode cX11_event 23 = .ok (.lconst 1, 1) := by decide +kernel
theorem dX11_event_24 : decode cX11_event 24 = .ok (.lsub, 1) := by decide +kernel
theorem dX11_event_25 : decode cX11_event 25 = .ok (.invokestatic 68, 3) := by decide +kernel
theorem dX11_event_28 : decode cX11_event 28 = .ok (.ifCond .eq 24, 3) := by decide +kernel
theorem dX11_event_31 : decode cX11_event 31 = .ok (.iload_n 1, 1) := by decide +kernel
theorem dX11_event_32 : decode cX11_event 32 = .ok (.i2l, 1) := by decide +kernel
theorem dX11_event_33 : decode cX11_event 33 = .ok (.aload_n 0, 1) := by decide +kernel
theorem dX11_event_34 : decode cX11_event 34 = .ok (.getfield 7, 3) := by decide +kernel
theorem dX11_event_37 : decode cX11_event 37 = .ok (.bipush 104, 2) := by decide +kernel
theorem dX11_event_39 : decode cX11_event 39 = .ok (.laload, 1) := by decide +kernel
theorem dX11_event_40 : decode cX11_event 40 = .ok (.ldc2_w 179, 3) := by decide +kernel
theorem dX11_event_43 : decode cX11_event 43 = .ok (.lsub, 1) := by decide +kernel
theorem dX11_event_44 : decode cX11_event 44 = .ok (.lcmp, 1) := by decide +kernel
theorem dX11_event_45 : decode cX11_event 45 = .ok (.ifCond .lt 7, 3) := by decide +kernel
theorem dX11_event_48 : decode cX11_event 48 = .ok (.iconst 1, 1) := by decide +kernel
theorem dX11_event_49 : decode cX11_event 49 = .ok (.goto 4, 3) := by decide +kernel
theorem dX11_event_52 : decode cX11_event 52 = .ok (.iconst 0, 1) := by decide +kernel
theorem dX11_event_53 : decode cX11_event 53 = .ok (.istore_n 3, 1) := by decide +kernel
theorem dX11_event_54 : decode cX11_event 54 = .ok (.iload_n 3, 1) := by decide +kernel
theorem dX11_event_55 : decode cX11_event 55 = .ok (.ifCond .eq 23, 3) := by decide +kernel
theorem dX11_event_58 : decode cX11_event 58 = .ok (.aload_n 0, 1) := by decide +kernel
theorem dX11_event_59 : decode cX11_event 59 = .ok (.getfield 7, 3) := by decide +kernel
theorem dX11_event_62 : decode cX11_event 62 = .ok (.bipush 105, 2) := by decide +kernel
theorem dX11_event_64 : decode cX11_event 64 = .ok (.iconst 2, 1) := by decide +kernel
theorem dX11_event_65 : decode cX11_event 65 = .ok (.iload_n 1, 1) := by decide +kernel
theorem dX11_event_66 : decode cX11_event 66 = .ok (.bipush 60, 2) := by decide +kernel
theorem dX11_event_68 : decode cX11_event 68 = .ok (.irem, 1) := by decide +kernel
theorem dX11_event_69 : decode cX11_event 69 = .ok (.imul, 1) := by decide +kernel
theorem dX11_event_70 : decode cX11_event 70 = .ok (.iadd, 1) := by decide +kernel
theorem dX11_event_71 : decode cX11_event 71 = .ok (.iload_n 2, 1) := by decide +kernel
theorem dX11_event_72 : decode cX11_event 72 = .ok (.iadd, 1) := by decide +kernel
theorem dX11_event_73 : decode cX11_event 73 = .ok (.laload, 1) := by decide +kernel
theorem dX11_event_74 : decode cX11_event 74 = .ok (.l2i, 1) := by decide +kernel
theorem dX11_event_75 : decode cX11_event 75 = .ok (.goto 5, 3) := by decide +kernel
theorem dX11_event_78 : decode cX11_event 78 = .ok (.bipush (-6), 2) := by decide +kernel
theorem dX11_event_80 : decode cX11_event 80 = .ok (.ireturn, 1) := by decide +kernel
set_option maxRecDepth 20000 in
theorem ggX11_covered_X11_laysPoint : GoodIn wsX11_covered wsX11_laysPoint := goodIn_r _ [9, 10, 11, 12, 13, 14, 46, 47, 48, 49, 50, 51, 52, 53, 54, 55, 56, 57, 58, 59, 60, 61, 62, 63, 64, 65] (by decide +kernel) (by decide +kernel)
set_option maxRecDepth 20000 in
theorem gX11_covered_X11_laysPoint : GoodIn wsX11_covered (wsV RX11 225 RX11 yX11_laysPoint wsX11_laysPoint) := goodIn_app (goodIn_of _ (by decide +kernel)) ggX11_covered_X11_laysPoint
set_option maxRecDepth 20000 in
theorem ggX11_covered_X11_isInside : GoodIn wsX11_covered wsX11_isInside := goodIn_r _ [18, 11, 12, 13, 19, 20, 21, 8, 22, 23, 24, 25, 26, 27, 28, 29, 30, 14, 31, 32, 33, 34, 35, 36, 37, 38, 39, 40, 41, 42, 43, 44, 45, 46, 47, 48, 49, 50, 51, 52, 53, 54, 55, 56, 57, 58, 59, 60, 61, 62, 63, 64, 65] (by decide +kernel) (by decide +kernel)
set_option maxRecDepth 20000 in
theorem gX11_covered_X11_isInside : GoodIn wsX11_covered (wsV RX11 197 RX11 yX11_isInside wsX11_isInside) := goodIn_app (goodIn_of _ (by decide +kernel)) ggX11_covered_X11_isInside
theorem dX11_covered_0 : decode cX11_covered 0 = .ok (.iconst 0, 1) := by decide +kernel
theorem dX11_covered_1 : decode cX11_covered 1 = .ok (.istore_n 1, 1) := by decide +kernel
theorem dX11_covered_2 : decode cX11_covered 2 = .ok (.aload_n 0, 1) := by decide +kernel
theorem dX11_covered_3 : decode cX11_covered 3 = .ok (.aload_n 0, 1) := by decide +kernel
theorem dX11_covered_4 : decode cX11_covered 4 = .ok (.getfield 140, 3) := by decide +kernel
theorem dX11_covered_7 : decode cX11_covered 7 = .ok (.aload_n 0, 1) := by decide +kernel
theorem dX11_covered_8 : decode cX11_covered 8 = .ok (.getfield 144, 3) := by decide +kernel
theorem dX11_covered_11 : decode cX11_covered 11 = .ok (.aload_n 0, 1) := by decide +kernel
theorem dX11_covered_12 : decode cX11_covered 12 = .ok (.getfield 147, 3) := by decide +kernel
theorem dX11_covered_15 : decode cX11_covered 15 = .ok (.aload_n 0, 1) := by decide +kernel
theorem dX11_covered_16 : decode cX11_covered 16 = .ok (.getfield 150, 3) := by decide +kernel
theorem dX11_covered_19 : decode cX11_covered 19 = .ok (.invokevirtual 225, 3) := by decide +kernel
theorem dX11_covered_22 : decode cX11_covered 22 = .ok (.istore_n 2, 1) := by decide +kernel
theorem dX11_covered_23 : decode cX11_covered 23 = .ok (.iconst 0, 1) := by decide +kernel
theorem dX11_covered_24 : decode cX11_covered 24 = .ok (.istore_n 3, 1) := by decide +kernel
theorem dX11_covered_25 : decode cX11_covered 25 = .ok (.iload_n 3, 1) := by decide +kernel
theorem dX11_covered_26 : decode cX11_covered 26 = .ok (.iconst 3, 1) := by decide +kernel
theorem dX11_covered_27 : decode cX11_covered 27 = .ok (.if_icmp .ge 31, 3) := by decide +kernel
theorem dX11_covered_30 : decode cX11_covered 30 = .ok (.iload_n 2, 1) := by decide +kernel
theorem dX11_covered_31 : decode cX11_covered 31 = .ok (.ifCond .eq 27, 3) := by decide +kernel
theorem dX11_covered_34 : decode cX11_covered 34 = .ok (.iload_n 1, 1) := by decide +kernel
theorem dX11_covered_35 : decode cX11_covered 35 = .ok (.aload_n 0, 1) := by decide +kernel
theorem dX11_covered_36 : decode cX11_covered 36 = .ok (.iload_n 3, 1) := by decide +kernel
theorem dX11_covered_37 : decode cX11_covered 37 = .ok (.invokevirtual 197, 3) := by decide +kernel
theorem dX11_covered_40 : decode cX11_covered 40 = .ok (.ifCond .eq 9, 3) := by decide +kernel
theorem dX11_covered_43 : decode cX11_covered 43 = .ok (.iconst 1, 1) := by decide +kernel
theorem dX11_covered_44 : decode cX11_covered 44 = .ok (.iload_n 3, 1) := by decide +kernel
theorem dX11_covered_45 : decode cX11_covered 45 = .ok (.ishl, 1) := by decide +kernel
theorem dX11_covered_46 : decode cX11_covered 46 = .ok (.goto 4, 3) := by decide +kernel
theorem dX11_covered_49 : decode cX11_covered 49 = .ok (.iconst 0, 1) := by decide +kernel
theorem dX11_covered_50 : decode cX11_covered 50 = .ok (.ior, 1) := by decide +kernel
theorem dX11_covered_51 : decode cX11_covered 51 = .ok (.istore_n 1, 1) := by decide +kernel
theorem dX11_covered_52 : decode cX11_covered 52 = .ok (.iinc 3 1, 3) := by decide +kernel
theorem dX11_covered_55 : decode cX11_covered 55 = .ok (.goto (-30), 3) := by decide +kernel
theorem dX11_covered_58 : decode cX11_covered 58 = .ok (.iload_n 1, 1) := by decide +kernel
theorem dX11_covered_59 : decode cX11_covered 59 = .ok (.ireturn, 1) := by decide +kernel
set_option maxRecDepth 20000 in
theorem ggX11_covers_X11_isFault : GoodIn wsX11_covers wsX11_isFault := goodIn_r _ [4, 5, 6, 7, 8, 3, 9] (by decide +kernel) (by decide +kernel)
set_option maxRecDepth 20000 in
theorem gX11_covers_X11_isFault : GoodIn wsX11_covers (va_wsS RX11 157 yX11_isFault wsX11_isFault) := goodIn_app (goodIn_of _ (by decide +kernel)) ggX11_covers_X11_isFault
set_option maxRecDepth 20000 in
theorem ggX11_covers_X11_findsFault : GoodIn wsX11_covers wsX11_findsFault := goodIn_r _ [13, 14, 5, 15, 16, 17, 3, 18, 19, 20, 21, 22, 23, 24, 25, 26, 6, 27, 70, 71, 72, 73, 74, 75, 76, 77, 78, 79, 80, 81, 82, 83, 84, 85, 86, 87, 88, 89] (by decide +kernel) (by decide +kernel)
set_option maxRecDepth 20000 in
theorem gX11_covers_X11_findsFault : GoodIn wsX11_covers (wsV RX11 160 RX11 yX11_findsFault wsX11_findsFault) := goodIn_app (goodIn_of _ (by decide +kernel)) ggX11_covers_X11_findsFault
set_option maxRecDepth 20000 in
theorem ggX11_covers_X11_covered : GoodIn wsX11_covers wsX11_covered := goodIn_r _ [31, 20, 21, 22, 23, 32, 33, 34, 3, 35, 5, 36, 37, 38, 14, 39, 40, 41, 42, 43, 44, 45, 46, 47, 48, 49, 50, 51, 52, 53, 54, 55, 56, 57, 58, 59, 60, 61, 62, 63, 64, 65, 66, 67, 68, 69, 70, 71, 72, 73, 74, 75, 76, 77, 78, 79, 80, 81, 82, 83, 84, 85, 86, 87, 88, 89] (by decide +kernel) (by decide +kernel)
set_option maxRecDepth 20000 in
theorem gX11_covers_X11_covered : GoodIn wsX11_covers (wsV RX11 251 RX11 yX11_covered wsX11_covered) := goodIn_app (goodIn_of _ (by decide +kernel)) ggX11_covers_X11_covered
theorem dX11_covers_0 : decode cX11_covers 0 = .ok (.iload_n 1, 1) := by decide +kernel
theorem dX11_covers_1 : decode cX11_covers 1 = .ok (.iload_n 2, 1) := by decide +kernel
theorem dX11_covers_2 : decode cX11_covers 2 = .ok (.invokestatic 157, 3) := by decide +kernel
theorem dX11_covers_5 : decode cX11_covers 5 = .ok (.ifCond .ne 6, 3) := by decide +kernel
theorem dX11_covers_8 : decode cX11_covers 8 = .ok (.bipush (-2), 2) := by decide +kernel
theorem dX11_covers_10 : decode cX11_covers 10 = .ok (.ireturn, 1) := by decide +kernel
theorem dX11_covers_11 : decode cX11_covers 11 = .ok (.aload_n 0, 1) := by decide +kernel
theorem dX11_covers_12 : decode cX11_covers 12 = .ok (.iload_n 1, 1) := by decide +kernel
theorem dX11_covers_13 : decode cX11_covers 13 = .ok (.iload_n 2, 1) := by decide +kernel
theorem dX11_covers_14 : decode cX11_covers 14 = .ok (.invokevirtual 160, 3) := by decide +kernel
theorem dX11_covers_17 : decode cX11_covers 17 = .ok (.ifCond .eq 10, 3) := by decide +kernel
theorem dX11_covers_20 : decode cX11_covers 20 = .ok (.aload_n 0, 1) := by decide +kernel
theorem dX11_covers_21 : decode cX11_covers 21 = .ok (.invokevirtual 251, 3) := by decide +kernel
theorem dX11_covers_24 : decode cX11_covers 24 = .ok (.goto 5, 3) := by decide +kernel
theorem dX11_covers_27 : decode cX11_covers 27 = .ok (.bipush (-5), 2) := by decide +kernel
theorem dX11_covers_29 : decode cX11_covers 29 = .ok (.ireturn, 1) := by decide +kernel
set_option maxRecDepth 20000 in
theorem ggX11_reach_X11_isZone : GoodIn wsX11_reach wsX11_isZone := goodIn_r _ [5, 6, 7, 8, 4, 9] (by decide +kernel) (by decide +kernel)
set_option maxRecDepth 20000 in
theorem gX11_reach_X11_isZone : GoodIn wsX11_reach (va_wsS RX11 119 yX11_isZone wsX11_isZone) := goodIn_app (goodIn_of _ (by decide +kernel)) ggX11_reach_X11_isZone
set_option maxRecDepth 20000 in
theorem ggX11_reach_X11_in : GoodIn wsX11_reach wsX11_in := goodIn_r _ [9] (by decide +kernel) (by decide +kernel)
set_option maxRecDepth 20000 in
theorem gX11_reach_X11_in : GoodIn wsX11_reach (va_wsS RX11 68 yX11_in wsX11_in) := goodIn_app (goodIn_of _ (by decide +kernel)) ggX11_reach_X11_in
set_option maxRecDepth 20000 in
theorem ggX11_reach_X11_findsFault : GoodIn wsX11_reach wsX11_findsFault := goodIn_r _ [13, 14, 15, 16, 17, 18, 4, 19, 20, 21, 22, 23, 24, 25, 26, 27, 1, 28, 71, 72, 73, 74, 75, 76, 77, 78, 79, 80, 81, 82, 83, 84, 85, 86, 87, 88, 89, 90] (by decide +kernel) (by decide +kernel)
set_option maxRecDepth 20000 in
theorem gX11_reach_X11_findsFault : GoodIn wsX11_reach (wsV RX11 160 RX11 yX11_findsFault wsX11_findsFault) := goodIn_app (goodIn_of _ (by decide +kernel)) ggX11_reach_X11_findsFault
set_option maxRecDepth 20000 in
theorem ggX11_reach_X11_covered : GoodIn wsX11_reach wsX11_covered := goodIn_r _ [32, 21, 22, 23, 24, 33, 34, 35, 4, 36, 15, 37, 38, 39, 14, 40, 41, 42, 43, 44, 45, 46, 47, 48, 49, 50, 51, 52, 53, 54, 55, 56, 57, 58, 59, 60, 61, 62, 63, 64, 65, 66, 67, 68, 69, 70, 71, 72, 73, 74, 75, 76, 77, 78, 79, 80, 81, 82, 83, 84, 85, 86, 87, 88, 89, 90] (by decide +kernel) (by decide +kernel)
set_option maxRecDepth 20000 in
theorem gX11_reach_X11_covered : GoodIn wsX11_reach (wsV RX11 251 RX11 yX11_covered wsX11_covered) := goodIn_app (goodIn_of _ (by decide +kernel)) ggX11_reach_X11_covered
theorem dX11_reach_0 : decode cX11_reach 0 = .ok (.iload_n 1, 1) := by decide +kernel
theorem dX11_reach_1 : decode cX11_reach 1 = .ok (.invokestatic 119, 3) := by decide +kernel
theorem dX11_reach_4 : decode cX11_reach 4 = .ok (.ifCond .ne 5, 3) := by decide +kernel
theorem dX11_reach_7 : decode cX11_reach 7 = .ok (.iconst (-1), 1) := by decide +kernel
theorem dX11_reach_8 : decode cX11_reach 8 = .ok (.ireturn, 1) := by decide +kernel
theorem dX11_reach_9 : decode cX11_reach 9 = .ok (.iload_n 2, 1) := by decide +kernel
theorem dX11_reach_10 : decode cX11_reach 10 = .ok (.i2l, 1) := by decide +kernel
theorem dX11_reach_11 : decode cX11_reach 11 = .ok (.lconst 0, 1) := by decide +kernel
theorem dX11_reach_12 : decode cX11_reach 12 = .ok (.ldc2_w 46, 3) := by decide +kernel
theorem dX11_reach_15 : decode cX11_reach 15 = .ok (.invokestatic 68, 3) := by decide +kernel
theorem dX11_reach_18 : decode cX11_reach 18 = .ok (.ifCond .ne 6, 3) := by decide +kernel
theorem dX11_reach_21 : decode cX11_reach 21 = .ok (.bipush (-2), 2) := by decide +kernel
theorem dX11_reach_23 : decode cX11_reach 23 = .ok (.ireturn, 1) := by decide +kernel
theorem dX11_reach_24 : decode cX11_reach 24 = .ok (.iconst 0, 1) := by decide +kernel
theorem dX11_reach_25 : decode cX11_reach 25 = .ok (.istore_n 3, 1) := by decide +kernel
theorem dX11_reach_26 : decode cX11_reach 26 = .ok (.iload_n 3, 1) := by decide +kernel
theorem dX11_reach_27 : decode cX11_reach 27 = .ok (.sipush 1000, 3) := by decide +kernel
theorem dX11_reach_30 : decode cX11_reach 30 = .ok (.if_icmp .gt 30, 3) := by decide +kernel
theorem dX11_reach_33 : decode cX11_reach 33 = .ok (.aload_n 0, 1) := by decide +kernel
theorem dX11_reach_34 : decode cX11_reach 34 = .ok (.iload_n 3, 1) := by decide +kernel
theorem dX11_reach_35 : decode cX11_reach 35 = .ok (.iload_n 2, 1) := by decide +kernel
theorem dX11_reach_36 : decode cX11_reach 36 = .ok (.invokevirtual 160, 3) := by decide +kernel
theorem dX11_reach_39 : decode cX11_reach 39 = .ok (.ifCond .eq 21, 3) := by decide +kernel
theorem dX11_reach_42 : decode cX11_reach 42 = .ok (.aload_n 0, 1) := by decide +kernel
theorem dX11_reach_43 : decode cX11_reach 43 = .ok (.invokevirtual 251, 3) := by decide +kernel
theorem dX11_reach_46 : decode cX11_reach 46 = .ok (.iload_n 1, 1) := by decide +kernel
theorem dX11_reach_47 : decode cX11_reach 47 = .ok (.ishr, 1) := by decide +kernel
theorem dX11_reach_48 : decode cX11_reach 48 = .ok (.iconst 1, 1) := by decide +kernel
theorem dX11_reach_49 : decode cX11_reach 49 = .ok (.iand, 1) := by decide +kernel
theorem dX11_reach_50 : decode cX11_reach 50 = .ok (.iconst 1, 1) := by decide +kernel
theorem dX11_reach_51 : decode cX11_reach 51 = .ok (.if_icmp .ne 9, 3) := by decide +kernel
theorem dX11_reach_54 : decode cX11_reach 54 = .ok (.iinc 3 1, 3) := by decide +kernel
theorem dX11_reach_57 : decode cX11_reach 57 = .ok (.goto (-31), 3) := by decide +kernel
theorem dX11_reach_60 : decode cX11_reach 60 = .ok (.iload_n 3, 1) := by decide +kernel
theorem dX11_reach_61 : decode cX11_reach 61 = .ok (.ifCond .ne 8, 3) := by decide +kernel
theorem dX11_reach_64 : decode cX11_reach 64 = .ok (.bipush (-6), 2) := by decide +kernel
theorem dX11_reach_66 : decode cX11_reach 66 = .ok (.goto 6, 3) := by decide +kernel
theorem dX11_reach_69 : decode cX11_reach 69 = .ok (.iload_n 3, 1) := by decide +kernel
theorem dX11_reach_70 : decode cX11_reach 70 = .ok (.iconst 1, 1) := by decide +kernel
theorem dX11_reach_71 : decode cX11_reach 71 = .ok (.isub, 1) := by decide +kernel
theorem dX11_reach_72 : decode cX11_reach 72 = .ok (.ireturn, 1) := by decide +kernel
set_option maxRecDepth 20000 in
theorem ggX11_samplesToTrip_X11_sample : GoodIn wsX11_samplesToTrip wsX11_sample := goodIn_r _ [6, 1, 7, 8, 9, 10, 11, 12, 5, 13, 14, 15, 16, 17, 18, 19, 20, 21, 22, 23, 24, 25, 26, 27, 28, 29, 30, 31, 32, 33, 34, 35, 36, 37, 38, 39, 40, 41, 42, 43, 44, 45, 46, 47, 48, 49, 50, 51, 52, 53, 54, 55, 56, 57, 58, 59, 60, 61, 62, 63, 64, 65, 66, 67, 68, 69, 70, 71, 72, 73, 74, 75, 76, 77, 78, 79, 80, 81, 82, 83, 84, 85, 86, 87, 88, 89, 90, 91, 92, 93, 94, 95, 96, 97, 98, 99, 100, 101, 102, 103, 104, 105, 106, 107, 108, 109, 110, 111, 112, 113, 114, 115, 116, 117, 118, 119, 120, 121, 122, 123, 124, 125, 126, 127] (by decide +kernel) (by decide +kernel)
set_option maxRecDepth 20000 in
theorem gX11_samplesToTrip_X11_sample : GoodIn wsX11_samplesToTrip (wsV RX11 240 RX11 yX11_sample wsX11_sample) := goodIn_app (goodIn_of _ (by decide +kernel)) ggX11_samplesToTrip_X11_sample
theorem dX11_samplesToTrip_0 : decode cX11_samplesToTrip 0 = .ok (.iconst 0, 1) := by decide +kernel
theorem dX11_samplesToTrip_1 : decode cX11_samplesToTrip 1 = .ok (.istore_n 2, 1) := by decide +kernel
theorem dX11_samplesToTrip_2 : decode cX11_samplesToTrip 2 = .ok (.iload_n 2, 1) := by decide +kernel
theorem dX11_samplesToTrip_3 : decode cX11_samplesToTrip 3 = .ok (.iload_n 1, 1) := by decide +kernel
theorem dX11_samplesToTrip_4 : decode cX11_samplesToTrip 4 = .ok (.if_icmp .gt 32, 3) := by decide +kernel
theorem dX11_samplesToTrip_7 : decode cX11_samplesToTrip 7 = .ok (.aload_n 0, 1) := by decide +kernel
theorem dX11_samplesToTrip_8 : decode cX11_samplesToTrip 8 = .ok (.getfield 7, 3) := by decide +kernel
theorem dX11_samplesToTrip_11 : decode cX11_samplesToTrip 11 = .ok (.bipush 97, 2) := by decide +kernel
theorem dX11_samplesToTrip_13 : decode cX11_samplesToTrip 13 = .ok (.laload, 1) := by decide +kernel
theorem dX11_samplesToTrip_14 : decode cX11_samplesToTrip 14 = .ok (.lconst 0, 1) := by decide +kernel
theorem dX11_samplesToTrip_15 : decode cX11_samplesToTrip 15 = .ok (.lcmp, 1) := by decide +kernel
theorem dX11_samplesToTrip_16 : decode cX11_samplesToTrip 16 = .ok (.ifCond .lt 5, 3) := by decide +kernel
theorem dX11_samplesToTrip_19 : decode cX11_samplesToTrip 19 = .ok (.iload_n 2, 1) := by decide +kernel
theorem dX11_samplesToTrip_20 : decode cX11_samplesToTrip 20 = .ok (.ireturn, 1) := by decide +kernel
theorem dX11_samplesToTrip_21 : decode cX11_samplesToTrip 21 = .ok (.iload_n 2, 1) := by decide +kernel
theorem dX11_samplesToTrip_22 : decode cX11_samplesToTrip 22 = .ok (.iload_n 1, 1) := by decide +kernel
theorem dX11_samplesToTrip_23 : decode cX11_samplesToTrip 23 = .ok (.if_icmp .ge 7, 3) := by decide +kernel
theorem dX11_samplesToTrip_26 : decode cX11_samplesToTrip 26 = .ok (.aload_n 0, 1) := by decide +kernel
theorem dX11_samplesToTrip_27 : decode cX11_samplesToTrip 27 = .ok (.invokevirtual 240, 3) := by decide +kernel
theorem dX11_samplesToTrip_30 : decode cX11_samplesToTrip 30 = .ok (.iinc 2 1, 3) := by decide +kernel
theorem dX11_samplesToTrip_33 : decode cX11_samplesToTrip 33 = .ok (.goto (-31), 3) := by decide +kernel
theorem dX11_samplesToTrip_36 : decode cX11_samplesToTrip 36 = .ok (.bipush (-6), 2) := by decide +kernel
theorem dX11_samplesToTrip_38 : decode cX11_samplesToTrip 38 = .ok (.ireturn, 1) := by decide +kernel
set_option maxRecDepth 20000 in
theorem ggX11_test_X11_isFault : GoodIn wsX11_test wsX11_isFault := goodIn_r _ [6, 7, 8, 9, 10, 5, 11] (by decide +kernel) (by decide +kernel)
set_option maxRecDepth 20000 in
theorem gX11_test_X11_isFault : GoodIn wsX11_test (va_wsS RX11 157 yX11_isFault wsX11_isFault) := goodIn_app (goodIn_of _ (by decide +kernel)) ggX11_test_X11_isFault
set_option maxRecDepth 20000 in
theorem ggX11_test_X11_in : GoodIn wsX11_test wsX11_in := goodIn_r _ [11] (by decide +kernel) (by decide +kernel)
set_option maxRecDepth 20000 in
theorem gX11_test_X11_in : GoodIn wsX11_test (va_wsS RX11 68 yX11_in wsX11_in) := goodIn_app (goodIn_of _ (by decide +kernel)) ggX11_test_X11_in
set_option maxRecDepth 20000 in
theorem ggX11_test_X11_findsHealthy : GoodIn wsX11_test wsX11_findsHealthy := goodIn_r _ [15, 2, 16, 17, 18, 5, 19, 7, 20, 21, 22, 23, 24, 25, 26, 27, 8, 28, 171, 172, 173, 174, 175, 176, 177, 178, 179, 180, 181, 182, 183, 184, 185, 186, 187, 188, 189, 190] (by decide +kernel) (by decide +kernel)
set_option maxRecDepth 20000 in
theorem gX11_test_X11_findsHealthy : GoodIn wsX11_test (wsV RX11 166 RX11 yX11_findsHealthy wsX11_findsHealthy) := goodIn_app (goodIn_of _ (by decide +kernel)) ggX11_test_X11_findsHealthy
set_option maxRecDepth 20000 in
theorem ggX11_test_X11_findsFault : GoodIn wsX11_test wsX11_findsFault := goodIn_r _ [32, 2, 7, 16, 17, 18, 5, 19, 20, 21, 22, 23, 24, 25, 26, 27, 8, 28, 171, 172, 173, 174, 175, 176, 177, 178, 179, 180, 181, 182, 183, 184, 185, 186, 187, 188, 189, 190] (by decide +kernel) (by decide +kernel)
set_option maxRecDepth 20000 in
theorem gX11_test_X11_findsFault : GoodIn wsX11_test (wsV RX11 160 RX11 yX11_findsFault wsX11_findsFault) := goodIn_app (goodIn_of _ (by decide +kernel)) ggX11_test_X11_findsFault
set_option maxRecDepth 20000 in
theorem ggX11_test_X11_putAside : GoodIn wsX11_test wsX11_putAside := goodIn_r _ [36, 37, 2, 171, 172, 173, 174, 175, 176, 177, 178, 179, 180, 181, 182, 183, 184, 185, 186, 187, 188, 189, 190] (by decide +kernel) (by decide +kernel)
set_option maxRecDepth 20000 in
theorem gX11_test_X11_putAside : GoodIn wsX11_test (wsV RX11 255 RX11 yX11_putAside wsX11_putAside) := goodIn_app (goodIn_of _ (by decide +kernel)) ggX11_test_X11_putAside
set_option maxRecDepth 20000 in
theorem ggX11_test_X11_reset : GoodIn wsX11_test wsX11_reset := goodIn_r _ [41, 2, 42, 171, 172, 173, 174, 175, 176, 177, 178, 179, 180, 181, 182, 183, 184, 185, 186, 187, 188, 189, 190] (by decide +kernel) (by decide +kernel)
set_option maxRecDepth 20000 in
theorem gX11_test_X11_reset : GoodIn wsX11_test (wsV RX11 258 RX11 yX11_reset wsX11_reset) := goodIn_app (goodIn_of _ (by decide +kernel)) ggX11_test_X11_reset
set_option maxRecDepth 20000 in
theorem ggX11_test_X11_healthy : GoodIn wsX11_test wsX11_healthy := goodIn_r _ [46, 2, 12, 13, 14, 5, 15, 16, 17, 18, 19, 7, 20, 21, 22, 23, 24, 25, 26, 27, 8, 28, 47, 48, 49, 50, 51, 52, 53, 54, 171, 172, 173, 174, 175, 176, 177, 178, 179, 180, 181, 182, 183, 184, 185, 186, 187, 188, 189, 190] (by decide +kernel) (by decide +kernel)
set_option maxRecDepth 20000 in
theorem gX11_test_X11_healthy : GoodIn wsX11_test (wsV RX11 261 RX11 yX11_healthy wsX11_healthy) := goodIn_app (goodIn_of _ (by decide +kernel)) ggX11_test_X11_healthy
set_option maxRecDepth 20000 in
theorem ggX11_test_X11_sample : GoodIn wsX11_test wsX11_sample := goodIn_r _ [58, 2, 59, 60, 61, 62, 63, 64, 5, 65, 66, 67, 68, 69, 70, 71, 72, 73, 74, 75, 76, 77, 78, 79, 80, 81, 82, 83, 84, 85, 86, 87, 88, 89, 90, 7, 91, 92, 93, 94, 95, 96, 97, 98, 99, 100, 101, 102, 103, 104, 105, 106, 107, 108, 109, 110, 111, 112, 113, 114, 115, 116, 117, 118, 119, 120, 121, 122, 123, 124, 125, 126, 127, 128, 129, 130, 131, 132, 133, 134, 135, 136, 137, 138, 139, 140, 141, 142, 143, 144, 145, 146, 147, 148, 149, 150, 151, 152, 153, 154, 155, 156, 157, 158, 171, 172, 173, 174, 175, 176, 177, 178, 179, 180, 181, 182, 183, 184, 185, 186, 187, 188, 189, 190] (by decide +kernel) (by decide +kernel)
set_option maxRecDepth 20000 in
theorem gX11_test_X11_sample : GoodIn wsX11_test (wsV RX11 240 RX11 yX11_sample wsX11_sample) := goodIn_app (goodIn_of _ (by decide +kernel)) ggX11_test_X11_sample
set_option maxRecDepth 20000 in
theorem ggX11_test_X11_fault : GoodIn wsX11_test wsX11_fault := goodIn_r _ [162, 2, 3, 4, 5, 6, 7, 8, 9, 10, 11, 29, 30, 31, 32, 16, 17, 18, 19, 20, 21, 22, 23, 24, 25, 26, 27, 28, 47, 48, 49, 50, 51, 52, 53, 54, 171, 172, 173, 174, 175, 176, 177, 178, 179, 180, 181, 182, 183, 184, 185, 186, 187, 188, 189, 190] (by decide +kernel) (by decide +kernel)
set_option maxRecDepth 20000 in
theorem gX11_test_X11_fault : GoodIn wsX11_test (wsV RX11 264 RX11 yX11_fault wsX11_fault) := goodIn_app (goodIn_of _ (by decide +kernel)) ggX11_test_X11_fault
set_option maxRecDepth 20000 in
theorem ggX11_test_X11_samplesToTrip : GoodIn wsX11_test wsX11_samplesToTrip := goodIn_r _ [166, 2, 55, 56, 57, 5, 58, 59, 60, 61, 62, 63, 64, 65, 66, 67, 68, 69, 70, 71, 72, 73, 74, 75, 76, 77, 78, 79, 80, 81, 82, 83, 84, 85, 86, 87, 88, 89, 90, 7, 91, 92, 93, 94, 95, 96, 97, 98, 99, 100, 101, 102, 103, 104, 105, 106, 107, 108, 109, 110, 111, 112, 113, 114, 115, 116, 117, 118, 119, 120, 121, 122, 123, 124, 125, 126, 127, 128, 129, 130, 131, 132, 133, 134, 135, 136, 137, 138, 139, 140, 141, 142, 143, 144, 145, 146, 147, 148, 149, 150, 151, 152, 153, 154, 155, 156, 157, 158, 171, 172, 173, 174, 175, 176, 177, 178, 179, 180, 181, 182, 183, 184, 185, 186, 187, 188, 189, 190] (by decide +kernel) (by decide +kernel)
set_option maxRecDepth 20000 in
theorem gX11_test_X11_samplesToTrip : GoodIn wsX11_test (wsV RX11 268 RX11 yX11_samplesToTrip wsX11_samplesToTrip) := goodIn_app (goodIn_of _ (by decide +kernel)) ggX11_test_X11_samplesToTrip
set_option maxRecDepth 20000 in
theorem ggX11_test_X11_putBack : GoodIn wsX11_test wsX11_putBack := goodIn_r _ [170, 2, 37, 171, 172, 173, 174, 175, 176, 177, 178, 179, 180, 181, 182, 183, 184, 185, 186, 187, 188, 189, 190] (by decide +kernel) (by decide +kernel)
set_option maxRecDepth 20000 in
theorem gX11_test_X11_putBack : GoodIn wsX11_test (wsV RX11 271 RX11 yX11_putBack wsX11_putBack) := goodIn_app (goodIn_of _ (by decide +kernel)) ggX11_test_X11_putBack
theorem dX11_test_0 : decode cX11_test 0 = .ok (.iload_n 1, 1) := by decide +kernel
theorem dX11_test_1 : decode cX11_test 1 = .ok (.iload_n 2, 1) := by decide +kernel
theorem dX11_test_2 : decode cX11_test 2 = .ok (.invokestatic 157, 3) := by decide +kernel
theorem dX11_test_5 : decode cX11_test 5 = .ok (.ifCond .eq 26, 3) := by decide +kernel
theorem dX11_test_8 : decode cX11_test 8 = .ok (.iload_n 3, 1) := by decide +kernel
theorem dX11_test_9 : decode cX11_test 9 = .ok (.i2l, 1) := by decide +kernel
theorem dX11_test_10 : decode cX11_test 10 = .ok (.lconst 1, 1) := by decide +kernel
theorem dX11_test_11 : decode cX11_test 11 = .ok (.ldc2_w 122, 3) := by decide +kernel
theorem dX11_test_14 : decode cX11_test 14 = .ok (.invokestatic 68, 3) := by decide +kernel
theorem dX11_test_17 : decode cX11_test 17 = .ok (.ifCond .eq 14, 3) := by decide +kernel
theorem dX11_test_20 : decode cX11_test 20 = .ok (.iload 4, 2) := by decide +kernel
theorem dX11_test_22 : decode cX11_test 22 = .ok (.i2l, 1) := by decide +kernel
theorem dX11_test_23 : decode cX11_test 23 = .ok (.lconst 0, 1) := by decide +kernel
theorem dX11_test_24 : decode cX11_test 24 = .ok (.lconst 1, 1) := by decide +kernel
theorem dX11_test_25 : decode cX11_test 25 = .ok (.invokestatic 68, 3) := by decide +kernel
theorem dX11_test_28 : decode cX11_test 28 = .ok (.ifCond .ne 6, 3) := by decide +kernel
theorem dX11_test_31 : decode cX11_test 31 = .ok (.bipush (-2), 2) := by decide +kernel
theorem dX11_test_33 : decode cX11_test 33 = .ok (.ireturn, 1) := by decide +kernel
theorem dX11_test_34 : decode cX11_test 34 = .ok (.aload_n 0, 1) := by decide +kernel
theorem dX11_test_35 : decode cX11_test 35 = .ok (.invokevirtual 166, 3) := by decide +kernel
theorem dX11_test_38 : decode cX11_test 38 = .ok (.ifCond .eq 12, 3) := by decide +kernel
theorem dX11_test_41 : decode cX11_test 41 = .ok (.aload_n 0, 1) := by decide +kernel
theorem dX11_test_42 : decode cX11_test 42 = .ok (.iload_n 1, 1) := by decide +kernel
theorem dX11_test_43 : decode cX11_test 43 = .ok (.iload_n 2, 1) := by decide +kernel
theorem dX11_test_44 : decode cX11_test 44 = .ok (.invokevirtual 160, 3) := by decide +kernel
theorem dX11_test_47 : decode cX11_test 47 = .ok (.ifCond .ne 6, 3) := by decide +kernel
theorem dX11_test_50 : decode cX11_test 50 = .ok (.bipush (-5), 2) := by decide +kernel
theorem dX11_test_52 : decode cX11_test 52 = .ok (.ireturn, 1) := by decide +kernel
theorem dX11_test_53 : decode cX11_test 53 = .ok (.aload_n 0, 1) := by decide +kernel
theorem dX11_test_54 : decode cX11_test 54 = .ok (.invokevirtual 255, 3) := by decide +kernel
theorem dX11_test_57 : decode cX11_test 57 = .ok (.aload_n 0, 1) := by decide +kernel
theorem dX11_test_58 : decode cX11_test 58 = .ok (.invokevirtual 258, 3) := by decide +kernel
theorem dX11_test_61 : decode cX11_test 61 = .ok (.pop, 1) := by decide +kernel
theorem dX11_test_62 : decode cX11_test 62 = .ok (.aload_n 0, 1) := by decide +kernel
theorem dX11_test_63 : decode cX11_test 63 = .ok (.invokevirtual 261, 3) := by decide +kernel
theorem dX11_test_66 : decode cX11_test 66 = .ok (.pop, 1) := by decide +kernel
theorem dX11_test_67 : decode cX11_test 67 = .ok (.iconst 0, 1) := by decide +kernel
theorem dX11_test_68 : decode cX11_test 68 = .ok (.istore 5, 2) := by decide +kernel
theorem dX11_test_70 : decode cX11_test 70 = .ok (.iload 5, 2) := by decide +kernel
theorem dX11_test_72 : decode cX11_test 72 = .ok (.bipush 48, 2) := by decide +kernel
theorem dX11_test_74 : decode cX11_test 74 = .ok (.if_icmp .ge 13, 3) := by decide +kernel
theorem dX11_test_77 : decode cX11_test 77 = .ok (.aload_n 0, 1) := by decide +kernel
theorem dX11_test_78 : decode cX11_test 78 = .ok (.invokevirtual 240, 3) := by decide +kernel
theorem dX11_test_81 : decode cX11_test 81 = .ok (.iinc 5 1, 3) := by decide +kernel
theorem dX11_test_84 : decode cX11_test 84 = .ok (.goto (-14), 3) := by decide +kernel
theorem dX11_test_87 : decode cX11_test 87 = .ok (.aload_n 0, 1) := by decide +kernel
theorem dX11_test_88 : decode cX11_test 88 = .ok (.iload_n 1, 1) := by decide +kernel
theorem dX11_test_89 : decode cX11_test 89 = .ok (.iload_n 2, 1) := by decide +kernel
theorem dX11_test_90 : decode cX11_test 90 = .ok (.invokevirtual 264, 3) := by decide +kernel
theorem dX11_test_93 : decode cX11_test 93 = .ok (.pop, 1) := by decide +kernel
theorem dX11_test_94 : decode cX11_test 94 = .ok (.aload_n 0, 1) := by decide +kernel
theorem dX11_test_95 : decode cX11_test 95 = .ok (.iload_n 3, 1) := by decide +kernel
theorem dX11_test_96 : decode cX11_test 96 = .ok (.invokevirtual 268, 3) := by decide +kernel
theorem dX11_test_99 : decode cX11_test 99 = .ok (.istore 5, 2) := by decide +kernel
theorem dX11_test_101 : decode cX11_test 101 = .ok (.aload_n 0, 1) := by decide +kernel
theorem dX11_test_102 : decode cX11_test 102 = .ok (.getfield 7, 3) := by decide +kernel
theorem dX11_test_105 : decode cX11_test 105 = .ok (.bipush 97, 2) := by decide +kernel
theorem dX11_test_107 : decode cX11_test 107 = .ok (.laload, 1) := by decide +kernel
theorem dX11_test_108 : decode cX11_test 108 = .ok (.l2i, 1) := by decide +kernel
theorem dX11_test_109 : decode cX11_test 109 = .ok (.istore 6, 2) := by decide +kernel
theorem dX11_test_111 : decode cX11_test 111 = .ok (.aload_n 0, 1) := by decide +kernel
theorem dX11_test_112 : decode cX11_test 112 = .ok (.invokevirtual 271, 3) := by decide +kernel
theorem dX11_test_115 : decode cX11_test 115 = .ok (.iload 4, 2) := by decide +kernel
theorem dX11_test_117 : decode cX11_test 117 = .ok (.ifCond .ne 8, 3) := by decide +kernel
theorem dX11_test_120 : decode cX11_test 120 = .ok (.iload 5, 2) := by decide +kernel
theorem dX11_test_122 : decode cX11_test 122 = .ok (.goto 5, 3) := by decide +kernel
theorem dX11_test_125 : decode cX11_test 125 = .ok (.iload 6, 2) := by decide +kernel
theorem dX11_test_127 : decode cX11_test 127 = .ok (.ireturn, 1) := by decide +kernel
set_option maxRecDepth 20000 in
theorem ggX11_forecast_X11_in : GoodIn wsX11_forecast wsX11_in := goodIn_r _ [5] (by decide +kernel) (by decide +kernel)
set_option maxRecDepth 20000 in
theorem gX11_forecast_X11_in : GoodIn wsX11_forecast (va_wsS RX11 68 yX11_in wsX11_in) := goodIn_app (goodIn_of _ (by decide +kernel)) ggX11_forecast_X11_in
set_option maxRecDepth 20000 in
theorem ggX11_forecast_X11_putAside : GoodIn wsX11_forecast wsX11_putAside := goodIn_r _ [9, 10, 11, 125, 126, 127, 128, 129, 130, 131, 132, 133, 134, 135, 136, 137, 138, 139, 140, 141, 142, 143, 144] (by decide +kernel) (by decide +kernel)
set_option maxRecDepth 20000 in
theorem gX11_forecast_X11_putAside : GoodIn wsX11_forecast (wsV RX11 255 RX11 yX11_putAside wsX11_putAside) := goodIn_app (goodIn_of _ (by decide +kernel)) ggX11_forecast_X11_putAside
set_option maxRecDepth 20000 in
theorem ggX11_forecast_X11_samplesToTrip : GoodIn wsX11_forecast wsX11_samplesToTrip := goodIn_r _ [15, 11, 16, 17, 18, 4, 19, 20, 21, 22, 23, 24, 25, 26, 27, 28, 29, 30, 31, 32, 33, 34, 35, 36, 37, 38, 39, 40, 41, 42, 43, 44, 45, 46, 47, 48, 49, 50, 51, 52, 53, 54, 55, 56, 57, 58, 59, 60, 61, 62, 63, 64, 65, 66, 67, 68, 69, 70, 71, 72, 73, 74, 75, 76, 77, 78, 79, 80, 81, 82, 83, 84, 85, 86, 87, 88, 89, 90, 91, 92, 93, 94, 95, 96, 97, 98, 99, 100, 101, 102, 103, 104, 105, 106, 107, 108, 109, 110, 111, 112, 113, 114, 115, 116, 117, 118, 119, 120, 125, 126, 127, 128, 129, 130, 131, 132, 133, 134, 135, 136, 137, 138, 139, 140, 141, 142, 143, 144] (by decide +kernel) (by decide +kernel)
set_option maxRecDepth 20000 in
theorem gX11_forecast_X11_samplesToTrip : GoodIn wsX11_forecast (wsV RX11 268 RX11 yX11_samplesToTrip wsX11_samplesToTrip) := goodIn_app (goodIn_of _ (by decide +kernel)) ggX11_forecast_X11_samplesToTrip
set_option maxRecDepth 20000 in
theorem ggX11_forecast_X11_putBack : GoodIn wsX11_forecast wsX11_putBack := goodIn_r _ [124, 11, 10, 125, 126, 127, 128, 129, 130, 131, 132, 133, 134, 135, 136, 137, 138, 139, 140, 141, 142, 143, 144] (by decide +kernel) (by decide +kernel)
set_option maxRecDepth 20000 in
theorem gX11_forecast_X11_putBack : GoodIn wsX11_forecast (wsV RX11 271 RX11 yX11_putBack wsX11_putBack) := goodIn_app (goodIn_of _ (by decide +kernel)) ggX11_forecast_X11_putBack
theorem dX11_forecast_0 : decode cX11_forecast 0 = .ok (.iload_n 1, 1) := by decide +kernel
theorem dX11_forecast_1 : decode cX11_forecast 1 = .ok (.i2l, 1) := by decide +kernel
theorem dX11_forecast_2 : decode cX11_forecast 2 = .ok (.lconst 1, 1) := by decide +kernel
theorem dX11_forecast_3 : decode cX11_forecast 3 = .ok (.ldc2_w 48, 3) := by decide +kernel
theorem dX11_forecast_6 : decode cX11_forecast 6 = .ok (.invokestatic 68, 3) := by decide +kernel
theorem dX11_forecast_9 : decode cX11_forecast 9 = .ok (.ifCond .ne 6, 3) := by decide +kernel
theorem dX11_forecast_12 : decode cX11_forecast 12 = .ok (.bipush (-2), 2) := by decide +kernel
theorem dX11_forecast_14 : decode cX11_forecast 14 = .ok (.ireturn, 1) := by decide +kernel
theorem dX11_forecast_15 : decode cX11_forecast 15 = .ok (.aload_n 0, 1) := by decide +kernel
theorem dX11_forecast_16 : decode cX11_forecast 16 = .ok (.invokevirtual 255, 3) := by decide +kernel
theorem dX11_forecast_19 : decode cX11_forecast 19 = .ok (.aload_n 0, 1) := by decide +kernel
theorem dX11_forecast_20 : decode cX11_forecast 20 = .ok (.iload_n 1, 1) := by decide +kernel
theorem dX11_forecast_21 : decode cX11_forecast 21 = .ok (.invokevirtual 268, 3) := by decide +kernel
theorem dX11_forecast_24 : decode cX11_forecast 24 = .ok (.istore_n 2, 1) := by decide +kernel
theorem dX11_forecast_25 : decode cX11_forecast 25 = .ok (.aload_n 0, 1) := by decide +kernel
theorem dX11_forecast_26 : decode cX11_forecast 26 = .ok (.invokevirtual 271, 3) := by decide +kernel
theorem dX11_forecast_29 : decode cX11_forecast 29 = .ok (.iload_n 2, 1) := by decide +kernel
theorem dX11_forecast_30 : decode cX11_forecast 30 = .ok (.ireturn, 1) := by decide +kernel
set_option maxRecDepth 20000 in
theorem ggX11_say_X11_in : GoodIn wsX11_say wsX11_in := goodIn_r _ [8] (by decide +kernel) (by decide +kernel)
set_option maxRecDepth 20000 in
theorem gX11_say_X11_in : GoodIn wsX11_say (va_wsS RX11 68 yX11_in wsX11_in) := goodIn_app (goodIn_of _ (by decide +kernel)) ggX11_say_X11_in
theorem dX11_say_0 : decode cX11_say 0 = .ok (.iload_n 1, 1) := by decide +kernel
theorem dX11_say_1 : decode cX11_say 1 = .ok (.i2l, 1) := by decide +kernel
theorem dX11_say_2 : decode cX11_say 2 = .ok (.ldc2_w 274, 3) := by decide +kernel
theorem dX11_say_5 : decode cX11_say 5 = .ok (.ldc2_w 276, 3) := by decide +kernel
theorem dX11_say_8 : decode cX11_say 8 = .ok (.invokestatic 68, 3) := by decide +kernel
theorem dX11_say_11 : decode cX11_say 11 = .ok (.ifCond .ne 6, 3) := by decide +kernel
theorem dX11_say_14 : decode cX11_say 14 = .ok (.bipush (-2), 2) := by decide +kernel
theorem dX11_say_16 : decode cX11_say 16 = .ok (.ireturn, 1) := by decide +kernel
theorem dX11_say_17 : decode cX11_say 17 = .ok (.aload_n 0, 1) := by decide +kernel
theorem dX11_say_18 : decode cX11_say 18 = .ok (.getfield 278, 3) := by decide +kernel
theorem dX11_say_21 : decode cX11_say 21 = .ok (.bipush 80, 2) := by decide +kernel
theorem dX11_say_23 : decode cX11_say 23 = .ok (.if_icmp .ne 6, 3) := by decide +kernel
theorem dX11_say_26 : decode cX11_say 26 = .ok (.bipush (-4), 2) := by decide +kernel
theorem dX11_say_28 : decode cX11_say 28 = .ok (.ireturn, 1) := by decide +kernel
theorem dX11_say_29 : decode cX11_say 29 = .ok (.aload_n 0, 1) := by decide +kernel
theorem dX11_say_30 : decode cX11_say 30 = .ok (.getfield 23, 3) := by decide +kernel
theorem dX11_say_33 : decode cX11_say 33 = .ok (.aload_n 0, 1) := by decide +kernel
theorem dX11_say_34 : decode cX11_say 34 = .ok (.getfield 278, 3) := by decide +kernel
theorem dX11_say_37 : decode cX11_say 37 = .ok (.iload_n 1, 1) := by decide +kernel
theorem dX11_say_38 : decode cX11_say 38 = .ok (.iastore, 1) := by decide +kernel
theorem dX11_say_39 : decode cX11_say 39 = .ok (.aload_n 0, 1) := by decide +kernel
theorem dX11_say_40 : decode cX11_say 40 = .ok (.dup, 1) := by decide +kernel
theorem dX11_say_41 : decode cX11_say 41 = .ok (.getfield 278, 3) := by decide +kernel
theorem dX11_say_44 : decode cX11_say 44 = .ok (.iconst 1, 1) := by decide +kernel
theorem dX11_say_45 : decode cX11_say 45 = .ok (.iadd, 1) := by decide +kernel
theorem dX11_say_46 : decode cX11_say 46 = .ok (.putfield 278, 3) := by decide +kernel
theorem dX11_say_49 : decode cX11_say 49 = .ok (.aload_n 0, 1) := by decide +kernel
theorem dX11_say_50 : decode cX11_say 50 = .ok (.getfield 278, 3) := by decide +kernel
theorem dX11_say_53 : decode cX11_say 53 = .ok (.ireturn, 1) := by decide +kernel
theorem dX11_wipe_0 : decode cX11_wipe 0 = .ok (.aload_n 0, 1) := by decide +kernel
theorem dX11_wipe_1 : decode cX11_wipe 1 = .ok (.getfield 278, 3) := by decide +kernel
theorem dX11_wipe_4 : decode cX11_wipe 4 = .ok (.istore_n 1, 1) := by decide +kernel
theorem dX11_wipe_5 : decode cX11_wipe 5 = .ok (.aload_n 0, 1) := by decide +kernel
theorem dX11_wipe_6 : decode cX11_wipe 6 = .ok (.iconst 0, 1) := by decide +kernel
theorem dX11_wipe_7 : decode cX11_wipe 7 = .ok (.putfield 278, 3) := by decide +kernel
theorem dX11_wipe_10 : decode cX11_wipe 10 = .ok (.iload_n 1, 1) := by decide +kernel
theorem dX11_wipe_11 : decode cX11_wipe 11 = .ok (.ireturn, 1) := by decide +kernel
theorem dX11_nextSign_0 : decode cX11_nextSign 0 = .ok (.aload_n 0, 1) := by decide +kernel
theorem dX11_nextSign_1 : decode cX11_nextSign 1 = .ok (.getfield 282, 3) := by decide +kernel
theorem dX11_nextSign_4 : decode cX11_nextSign 4 = .ok (.aload_n 0, 1) := by decide +kernel
theorem dX11_nextSign_5 : decode cX11_nextSign 5 = .ok (.getfield 278, 3) := by decide +kernel
theorem dX11_nextSign_8 : decode cX11_nextSign 8 = .ok (.if_icmp .ge 15, 3) := by decide +kernel
theorem dX11_nextSign_11 : decode cX11_nextSign 11 = .ok (.aload_n 0, 1) := by decide +kernel
theorem dX11_nextSign_12 : decode cX11_nextSign 12 = .ok (.getfield 23, 3) := by decide +kernel
theorem dX11_nextSign_15 : decode cX11_nextSign 15 = .ok (.aload_n 0, 1) := by decide +kernel
theorem dX11_nextSign_16 : decode cX11_nextSign 16 = .ok (.getfield 282, 3) := by decide +kernel
theorem dX11_nextSign_19 : decode cX11_nextSign 19 = .ok (.iaload, 1) := by decide +kernel
theorem dX11_nextSign_20 : decode cX11_nextSign 20 = .ok (.goto 4, 3) := by decide +kernel
theorem dX11_nextSign_23 : decode cX11_nextSign 23 = .ok (.iconst 0, 1) := by decide +kernel
theorem dX11_nextSign_24 : decode cX11_nextSign 24 = .ok (.ireturn, 1) := by decide +kernel
set_option maxRecDepth 20000 in
theorem ggX11_takesSign_X11_nextSign : GoodIn wsX11_takesSign wsX11_nextSign := goodIn_r _ [7, 2, 8, 9, 10, 11, 12, 13, 14, 15, 16, 17, 18, 19, 20, 21, 22, 23, 24, 25, 26, 27, 28, 29] (by decide +kernel) (by decide +kernel)
set_option maxRecDepth 20000 in
theorem gX11_takesSign_X11_nextSign : GoodIn wsX11_takesSign (wsV RX11 289 RX11 yX11_nextSign wsX11_nextSign) := goodIn_app (goodIn_of _ (by decide +kernel)) ggX11_takesSign_X11_nextSign
theorem dX11_takesSign_0 : decode cX11_takesSign 0 = .ok (.aload_n 0, 1) := by decide +kernel
theorem dX11_takesSign_1 : decode cX11_takesSign 1 = .ok (.getfield 285, 3) := by decide +kernel
theorem dX11_takesSign_4 : decode cX11_takesSign 4 = .ok (.ifCond .ne 11, 3) := by decide +kernel
theorem dX11_takesSign_7 : decode cX11_takesSign 7 = .ok (.aload_n 0, 1) := by decide +kernel
theorem dX11_takesSign_8 : decode cX11_takesSign 8 = .ok (.invokevirtual 289, 3) := by decide +kernel
theorem dX11_takesSign_11 : decode cX11_takesSign 11 = .ok (.iload_n 1, 1) := by decide +kernel
theorem dX11_takesSign_12 : decode cX11_takesSign 12 = .ok (.if_icmp .eq 5, 3) := by decide +kernel
theorem dX11_takesSign_15 : decode cX11_takesSign 15 = .ok (.iconst 0, 1) := by decide +kernel
theorem dX11_takesSign_16 : decode cX11_takesSign 16 = .ok (.ireturn, 1) := by decide +kernel
theorem dX11_takesSign_17 : decode cX11_takesSign 17 = .ok (.aload_n 0, 1) := by decide +kernel
theorem dX11_takesSign_18 : decode cX11_takesSign 18 = .ok (.dup, 1) := by decide +kernel
theorem dX11_takesSign_19 : decode cX11_takesSign 19 = .ok (.getfield 282, 3) := by decide +kernel
theorem dX11_takesSign_22 : decode cX11_takesSign 22 = .ok (.iconst 1, 1) := by decide +kernel
theorem dX11_takesSign_23 : decode cX11_takesSign 23 = .ok (.iadd, 1) := by decide +kernel
theorem dX11_takesSign_24 : decode cX11_takesSign 24 = .ok (.putfield 282, 3) := by decide +kernel
theorem dX11_takesSign_27 : decode cX11_takesSign 27 = .ok (.iconst 1, 1) := by decide +kernel
theorem dX11_takesSign_28 : decode cX11_takesSign 28 = .ok (.ireturn, 1) := by decide +kernel
set_option maxRecDepth 20000 in
theorem ggX11_readNumber_X11_takesSign : GoodIn wsX11_readNumber wsX11_takesSign := goodIn_r _ [10, 1, 3, 11, 12, 13, 9, 14, 15, 16, 20, 21, 22, 23, 24, 25, 26, 27, 28, 29, 30, 31, 32, 33, 34, 35, 36, 37, 38, 39] (by decide +kernel) (by decide +kernel)
set_option maxRecDepth 20000 in
theorem gX11_readNumber_X11_takesSign : GoodIn wsX11_readNumber (wsV RX11 292 RX11 yX11_takesSign wsX11_takesSign) := goodIn_app (goodIn_of _ (by decide +kernel)) ggX11_readNumber_X11_takesSign
set_option maxRecDepth 20000 in
theorem ggX11_readNumber_X11_nextSign : GoodIn wsX11_readNumber wsX11_nextSign := goodIn_r _ [14, 3, 15, 16, 20, 21, 22, 23, 24, 25, 26, 27, 28, 29, 30, 31, 32, 33, 34, 35, 36, 37, 38, 39] (by decide +kernel) (by decide +kernel)
set_option maxRecDepth 20000 in
theorem gX11_readNumber_X11_nextSign : GoodIn wsX11_readNumber (wsV RX11 289 RX11 yX11_nextSign wsX11_nextSign) := goodIn_app (goodIn_of _ (by decide +kernel)) ggX11_readNumber_X11_nextSign
set_option maxRecDepth 20000 in
theorem ggX11_readNumber_X11_in : GoodIn wsX11_readNumber wsX11_in := goodIn_r _ [19] (by decide +kernel) (by decide +kernel)
set_option maxRecDepth 20000 in
theorem gX11_readNumber_X11_in : GoodIn wsX11_readNumber (va_wsS RX11 68 yX11_in wsX11_in) := goodIn_app (goodIn_of _ (by decide +kernel)) ggX11_readNumber_X11_in
theorem dX11_readNumber_0 : decode cX11_readNumber 0 = .ok (.aload_n 0, 1) := by decide +kernel
theorem dX11_readNumber_1 : decode cX11_readNumber 1 = .ok (.bipush 45, 2) := by decide +kernel
theorem dX11_readNumber_3 : decode cX11_readNumber 3 = .ok (.invokevirtual 292, 3) := by decide +kernel
theorem dX11_readNumber_6 : decode cX11_readNumber 6 = .ok (.istore_n 1, 1) := by decide +kernel
theorem dX11_readNumber_7 : decode cX11_readNumber 7 = .ok (.aload_n 0, 1) := by decide +kernel
theorem dX11_readNumber_8 : decode cX11_readNumber 8 = .ok (.invokevirtual 289, 3) := by decide +kernel
theorem dX11_readNumber_11 : decode cX11_readNumber 11 = .ok (.bipush 48, 2) := by decide +kernel
theorem dX11_readNumber_13 : decode cX11_readNumber 13 = .ok (.isub, 1) := by decide +kernel
theorem dX11_readNumber_14 : decode cX11_readNumber 14 = .ok (.istore_n 2, 1) := by decide +kernel
theorem dX11_readNumber_15 : decode cX11_readNumber 15 = .ok (.aload_n 0, 1) := by decide +kernel
theorem dX11_readNumber_16 : decode cX11_readNumber 16 = .ok (.getfield 285, 3) := by decide +kernel
theorem dX11_readNumber_19 : decode cX11_readNumber 19 = .ok (.ifCond .ne 15, 3) := by decide +kernel
theorem dX11_readNumber_22 : decode cX11_readNumber 22 = .ok (.iload_n 2, 1) := by decide +kernel
theorem dX11_readNumber_23 : decode cX11_readNumber 23 = .ok (.i2l, 1) := by decide +kernel
theorem dX11_readNumber_24 : decode cX11_readNumber 24 = .ok (.lconst 0, 1) := by decide +kernel
theorem dX11_readNumber_25 : decode cX11_readNumber 25 = .ok (.ldc2_w 247, 3) := by decide +kernel
theorem dX11_readNumber_28 : decode cX11_readNumber 28 = .ok (.invokestatic 68, 3) := by decide +kernel
theorem dX11_readNumber_31 : decode cX11_readNumber 31 = .ok (.ifCond .ne 10, 3) := by decide +kernel
theorem dX11_readNumber_34 : decode cX11_readNumber 34 = .ok (.aload_n 0, 1) := by decide +kernel
theorem dX11_readNumber_35 : decode cX11_readNumber 35 = .ok (.iconst 1, 1) := by decide +kernel
theorem dX11_readNumber_36 : decode cX11_readNumber 36 = .ok (.putfield 285, 3) := by decide +kernel
theorem dX11_readNumber_39 : decode cX11_readNumber 39 = .ok (.iconst 0, 1) := by decide +kernel
theorem dX11_readNumber_40 : decode cX11_readNumber 40 = .ok (.ireturn, 1) := by decide +kernel
theorem dX11_readNumber_41 : decode cX11_readNumber 41 = .ok (.aload_n 0, 1) := by decide +kernel
theorem dX11_readNumber_42 : decode cX11_readNumber 42 = .ok (.dup, 1) := by decide +kernel
theorem dX11_readNumber_43 : decode cX11_readNumber 43 = .ok (.getfield 282, 3) := by decide +kernel
theorem dX11_readNumber_46 : decode cX11_readNumber 46 = .ok (.iconst 1, 1) := by decide +kernel
theorem dX11_readNumber_47 : decode cX11_readNumber 47 = .ok (.iadd, 1) := by decide +kernel
theorem dX11_readNumber_48 : decode cX11_readNumber 48 = .ok (.putfield 282, 3) := by decide +kernel
theorem dX11_readNumber_51 : decode cX11_readNumber 51 = .ok (.iload_n 2, 1) := by decide +kernel
theorem dX11_readNumber_52 : decode cX11_readNumber 52 = .ok (.ifCond .le 64, 3) := by decide +kernel
theorem dX11_readNumber_55 : decode cX11_readNumber 55 = .ok (.aload_n 0, 1) := by decide +kernel
theorem dX11_readNumber_56 : decode cX11_readNumber 56 = .ok (.invokevirtual 289, 3) := by decide +kernel
theorem dX11_readNumber_59 : decode cX11_readNumber 59 = .ok (.i2l, 1) := by decide +kernel
theorem dX11_readNumber_60 : decode cX11_readNumber 60 = .ok (.ldc2_w 50, 3) := by decide +kernel
theorem dX11_readNumber_63 : decode cX11_readNumber 63 = .ok (.ldc2_w 295, 3) := by decide +kernel
theorem dX11_readNumber_66 : decode cX11_readNumber 66 = .ok (.invokestatic 68, 3) := by decide +kernel
theorem dX11_readNumber_69 : decode cX11_readNumber 69 = .ok (.ifCond .eq 47, 3) := by decide +kernel
theorem dX11_readNumber_72 : decode cX11_readNumber 72 = .ok (.bipush 10, 2) := by decide +kernel
theorem dX11_readNumber_74 : decode cX11_readNumber 74 = .ok (.iload_n 2, 1) := by decide +kernel
theorem dX11_readNumber_75 : decode cX11_readNumber 75 = .ok (.imul, 1) := by decide +kernel
theorem dX11_readNumber_76 : decode cX11_readNumber 76 = .ok (.aload_n 0, 1) := by decide +kernel
theorem dX11_readNumber_77 : decode cX11_readNumber 77 = .ok (.invokevirtual 289, 3) := by decide +kernel
theorem dX11_readNumber_80 : decode cX11_readNumber 80 = .ok (.iadd, 1) := by decide +kernel
theorem dX11_readNumber_81 : decode cX11_readNumber 81 = .ok (.bipush 48, 2) := by decide +kernel
theorem dX11_readNumber_83 : decode cX11_readNumber 83 = .ok (.isub, 1) := by decide +kernel
theorem dX11_readNumber_84 : decode cX11_readNumber 84 = .ok (.sipush 20000, 3) := by decide +kernel
theorem dX11_readNumber_87 : decode cX11_readNumber 87 = .ok (.if_icmp .gt 29, 3) := by decide +kernel
theorem dX11_readNumber_90 : decode cX11_readNumber 90 = .ok (.bipush 10, 2) := by decide +kernel
theorem dX11_readNumber_92 : decode cX11_readNumber 92 = .ok (.iload_n 2, 1) := by decide +kernel
theorem dX11_readNumber_93 : decode cX11_readNumber 93 = .ok (.imul, 1) := by decide +kernel
theorem dX11_readNumber_94 : decode cX11_readNumber 94 = .ok (.aload_n 0, 1) := by decide +kernel
theorem dX11_readNumber_95 : decode cX11_readNumber 95 = .ok (.invokevirtual 289, 3) := by decide +kernel
theorem dX11_readNumber_98 : decode cX11_readNumber 98 = .ok (.iadd, 1) := by decide +kernel
theorem dX11_readNumber_99 : decode cX11_readNumber 99 = .ok (.bipush 48, 2) := by decide +kernel
theorem dX11_readNumber_101 : decode cX11_readNumber 101 = .ok (.isub, 1) := by decide +kernel
theorem dX11_readNumber_102 : decode cX11_readNumber 102 = .ok (.istore_n 2, 1) := by decide +kernel
theorem dX11_readNumber_103 : decode cX11_readNumber 103 = .ok (.aload_n 0, 1) := by decide +kernel
theorem dX11_readNumber_104 : decode cX11_readNumber 104 = .ok (.dup, 1) := by decide +kernel
theorem dX11_readNumber_105 : decode cX11_readNumber 105 = .ok (.getfield 282, 3) := by decide +kernel
theorem dX11_readNumber_108 : decode cX11_readNumber 108 = .ok (.iconst 1, 1) := by decide +kernel
theorem dX11_readNumber_109 : decode cX11_readNumber 109 = .ok (.iadd, 1) := by decide +kernel
theorem dX11_readNumber_110 : decode cX11_readNumber 110 = .ok (.putfield 282, 3) := by decide +kernel
theorem dX11_readNumber_113 : decode cX11_readNumber 113 = .ok (.goto (-62), 3) := by decide +kernel
theorem dX11_readNumber_116 : decode cX11_readNumber 116 = .ok (.iload_n 1, 1) := by decide +kernel
theorem dX11_readNumber_117 : decode cX11_readNumber 117 = .ok (.ifCond .eq 8, 3) := by decide +kernel
theorem dX11_readNumber_120 : decode cX11_readNumber 120 = .ok (.iload_n 2, 1) := by decide +kernel
theorem dX11_readNumber_121 : decode cX11_readNumber 121 = .ok (.ineg, 1) := by decide +kernel
theorem dX11_readNumber_122 : decode cX11_readNumber 122 = .ok (.goto 4, 3) := by decide +kernel
theorem dX11_readNumber_125 : decode cX11_readNumber 125 = .ok (.iload_n 2, 1) := by decide +kernel
theorem dX11_readNumber_126 : decode cX11_readNumber 126 = .ok (.ireturn, 1) := by decide +kernel
set_option maxRecDepth 20000 in
theorem ggX11_readCorner_X11_readNumber : GoodIn wsX11_readCorner wsX11_readNumber := goodIn_r _ [8, 3, 9, 10, 11, 12, 13, 14, 15, 7, 16, 17, 18, 19, 20, 21, 22, 23, 24, 25, 26, 27, 28, 29, 30, 31, 32, 33, 34, 35, 36, 37, 38, 39, 40, 41, 42, 43, 44, 45] (by decide +kernel) (by decide +kernel)
set_option maxRecDepth 20000 in
theorem gX11_readCorner_X11_readNumber : GoodIn wsX11_readCorner (wsV RX11 300 RX11 yX11_readNumber wsX11_readNumber) := goodIn_app (goodIn_of _ (by decide +kernel)) ggX11_readCorner_X11_readNumber
set_option maxRecDepth 20000 in
theorem ggX11_readCorner_X11_takesSign : GoodIn wsX11_readCorner wsX11_takesSign := goodIn_r _ [16, 3, 10, 17, 18, 19, 7, 20, 21, 22, 26, 27, 28, 29, 30, 31, 32, 33, 34, 35, 36, 37, 38, 39, 40, 41, 42, 43, 44, 45] (by decide +kernel) (by decide +kernel)
set_option maxRecDepth 20000 in
theorem gX11_readCorner_X11_takesSign : GoodIn wsX11_readCorner (wsV RX11 292 RX11 yX11_takesSign wsX11_takesSign) := goodIn_app (goodIn_of _ (by decide +kernel)) ggX11_readCorner_X11_takesSign
theorem dX11_readCorner_0 : decode cX11_readCorner 0 = .ok (.aload_n 0, 1) := by decide +kernel
theorem dX11_readCorner_1 : decode cX11_readCorner 1 = .ok (.getfield 30, 3) := by decide +kernel
theorem dX11_readCorner_4 : decode cX11_readCorner 4 = .ok (.iconst 2, 1) := by decide +kernel
theorem dX11_readCorner_5 : decode cX11_readCorner 5 = .ok (.aload_n 0, 1) := by decide +kernel
theorem dX11_readCorner_6 : decode cX11_readCorner 6 = .ok (.getfield 297, 3) := by decide +kernel
theorem dX11_readCorner_9 : decode cX11_readCorner 9 = .ok (.imul, 1) := by decide +kernel
theorem dX11_readCorner_10 : decode cX11_readCorner 10 = .ok (.aload_n 0, 1) := by decide +kernel
theorem dX11_readCorner_11 : decode cX11_readCorner 11 = .ok (.invokevirtual 300, 3) := by decide +kernel
theorem dX11_readCorner_14 : decode cX11_readCorner 14 = .ok (.iastore, 1) := by decide +kernel
theorem dX11_readCorner_15 : decode cX11_readCorner 15 = .ok (.aload_n 0, 1) := by decide +kernel
theorem dX11_readCorner_16 : decode cX11_readCorner 16 = .ok (.aload_n 0, 1) := by decide +kernel
theorem dX11_readCorner_17 : decode cX11_readCorner 17 = .ok (.getfield 285, 3) := by decide +kernel
theorem dX11_readCorner_20 : decode cX11_readCorner 20 = .ok (.ifCond .ne 12, 3) := by decide +kernel
theorem dX11_readCorner_23 : decode cX11_readCorner 23 = .ok (.aload_n 0, 1) := by decide +kernel
theorem dX11_readCorner_24 : decode cX11_readCorner 24 = .ok (.bipush 44, 2) := by decide +kernel
theorem dX11_readCorner_26 : decode cX11_readCorner 26 = .ok (.invokevirtual 292, 3) := by decide +kernel
theorem dX11_readCorner_29 : decode cX11_readCorner 29 = .ok (.ifCond .ne 7, 3) := by decide +kernel
theorem dX11_readCorner_32 : decode cX11_readCorner 32 = .ok (.iconst 1, 1) := by decide +kernel
theorem dX11_readCorner_33 : decode cX11_readCorner 33 = .ok (.goto 4, 3) := by decide +kernel
theorem dX11_readCorner_36 : decode cX11_readCorner 36 = .ok (.iconst 0, 1) := by decide +kernel
theorem dX11_readCorner_37 : decode cX11_readCorner 37 = .ok (.putfield 285, 3) := by decide +kernel
theorem dX11_readCorner_40 : decode cX11_readCorner 40 = .ok (.aload_n 0, 1) := by decide +kernel
theorem dX11_readCorner_41 : decode cX11_readCorner 41 = .ok (.getfield 30, 3) := by decide +kernel
theorem dX11_readCorner_44 : decode cX11_readCorner 44 = .ok (.iconst 2, 1) := by decide +kernel
theorem dX11_readCorner_45 : decode cX11_readCorner 45 = .ok (.aload_n 0, 1) := by decide +kernel
theorem dX11_readCorner_46 : decode cX11_readCorner 46 = .ok (.getfield 297, 3) := by decide +kernel
theorem dX11_readCorner_49 : decode cX11_readCorner 49 = .ok (.imul, 1) := by decide +kernel
theorem dX11_readCorner_50 : decode cX11_readCorner 50 = .ok (.iconst 1, 1) := by decide +kernel
theorem dX11_readCorner_51 : decode cX11_readCorner 51 = .ok (.iadd, 1) := by decide +kernel
theorem dX11_readCorner_52 : decode cX11_readCorner 52 = .ok (.aload_n 0, 1) := by decide +kernel
theorem dX11_readCorner_53 : decode cX11_readCorner 53 = .ok (.invokevirtual 300, 3) := by decide +kernel
theorem dX11_readCorner_56 : decode cX11_readCorner 56 = .ok (.iastore, 1) := by decide +kernel
theorem dX11_readCorner_57 : decode cX11_readCorner 57 = .ok (.aload_n 0, 1) := by decide +kernel
theorem dX11_readCorner_58 : decode cX11_readCorner 58 = .ok (.dup, 1) := by decide +kernel
theorem dX11_readCorner_59 : decode cX11_readCorner 59 = .ok (.getfield 297, 3) := by decide +kernel
theorem dX11_readCorner_62 : decode cX11_readCorner 62 = .ok (.iconst 1, 1) := by decide +kernel
theorem dX11_readCorner_63 : decode cX11_readCorner 63 = .ok (.iadd, 1) := by decide +kernel
theorem dX11_readCorner_64 : decode cX11_readCorner 64 = .ok (.putfield 297, 3) := by decide +kernel
theorem dX11_readCorner_67 : decode cX11_readCorner 67 = .ok (.return_, 1) := by decide +kernel
set_option maxRecDepth 20000 in
theorem ggX11_flaw_X11_readCorner : GoodIn wsX11_flaw wsX11_readCorner := goodIn_r _ [9, 10, 3, 2, 11, 12, 13, 8, 14, 15, 1, 16, 17, 18, 19, 20, 21, 22, 23, 24, 25, 4, 26, 27, 28, 29, 30, 31, 32, 33, 34, 35, 36, 37, 38, 39, 40, 41, 42, 43, 44, 45, 46, 47, 48, 49] (by decide +kernel) (by decide +kernel)
set_option maxRecDepth 20000 in
theorem gX11_flaw_X11_readCorner : GoodIn wsX11_flaw (wsV RX11 303 RX11 yX11_readCorner wsX11_readCorner) := goodIn_app (goodIn_of _ (by decide +kernel)) ggX11_flaw_X11_readCorner
set_option maxRecDepth 20000 in
theorem ggX11_flaw_X11_takesSign : GoodIn wsX11_flaw wsX11_takesSign := goodIn_r _ [21, 2, 1, 22, 23, 24, 8, 25, 4, 26, 30, 31, 32, 33, 34, 35, 36, 37, 38, 39, 40, 41, 42, 43, 44, 45, 46, 47, 48, 49] (by decide +kernel) (by decide +kernel)
set_option maxRecDepth 20000 in
theorem gX11_flaw_X11_takesSign : GoodIn wsX11_flaw (wsV RX11 292 RX11 yX11_takesSign wsX11_takesSign) := goodIn_app (goodIn_of _ (by decide +kernel)) ggX11_flaw_X11_takesSign
theorem dX11_flaw_0 : decode cX11_flaw 0 = .ok (.aload_n 0, 1) := by decide +kernel
theorem dX11_flaw_1 : decode cX11_flaw 1 = .ok (.iconst 0, 1) := by decide +kernel
theorem dX11_flaw_2 : decode cX11_flaw 2 = .ok (.putfield 282, 3) := by decide +kernel
theorem dX11_flaw_5 : decode cX11_flaw 5 = .ok (.aload_n 0, 1) := by decide +kernel
theorem dX11_flaw_6 : decode cX11_flaw 6 = .ok (.iconst 0, 1) := by decide +kernel
theorem dX11_flaw_7 : decode cX11_flaw 7 = .ok (.putfield 285, 3) := by decide +kernel
theorem dX11_flaw_10 : decode cX11_flaw 10 = .ok (.aload_n 0, 1) := by decide +kernel
theorem dX11_flaw_11 : decode cX11_flaw 11 = .ok (.iconst 0, 1) := by decide +kernel
theorem dX11_flaw_12 : decode cX11_flaw 12 = .ok (.putfield 297, 3) := by decide +kernel
theorem dX11_flaw_15 : decode cX11_flaw 15 = .ok (.aload_n 0, 1) := by decide +kernel
theorem dX11_flaw_16 : decode cX11_flaw 16 = .ok (.invokevirtual 303, 3) := by decide +kernel
theorem dX11_flaw_19 : decode cX11_flaw 19 = .ok (.aload_n 0, 1) := by decide +kernel
theorem dX11_flaw_20 : decode cX11_flaw 20 = .ok (.getfield 297, 3) := by decide +kernel
theorem dX11_flaw_23 : decode cX11_flaw 23 = .ok (.bipush 8, 2) := by decide +kernel
theorem dX11_flaw_25 : decode cX11_flaw 25 = .ok (.if_icmp .ge 19, 3) := by decide +kernel
theorem dX11_flaw_28 : decode cX11_flaw 28 = .ok (.aload_n 0, 1) := by decide +kernel
theorem dX11_flaw_29 : decode cX11_flaw 29 = .ok (.bipush 47, 2) := by decide +kernel
theorem dX11_flaw_31 : decode cX11_flaw 31 = .ok (.invokevirtual 292, 3) := by decide +kernel
theorem dX11_flaw_34 : decode cX11_flaw 34 = .ok (.ifCond .eq 10, 3) := by decide +kernel
theorem dX11_flaw_37 : decode cX11_flaw 37 = .ok (.aload_n 0, 1) := by decide +kernel
theorem dX11_flaw_38 : decode cX11_flaw 38 = .ok (.invokevirtual 303, 3) := by decide +kernel
theorem dX11_flaw_41 : decode cX11_flaw 41 = .ok (.goto (-22), 3) := by decide +kernel
theorem dX11_flaw_44 : decode cX11_flaw 44 = .ok (.aload_n 0, 1) := by decide +kernel
theorem dX11_flaw_45 : decode cX11_flaw 45 = .ok (.getfield 285, 3) := by decide +kernel
theorem dX11_flaw_48 : decode cX11_flaw 48 = .ok (.ifCond .ne 14, 3) := by decide +kernel
theorem dX11_flaw_51 : decode cX11_flaw 51 = .ok (.aload_n 0, 1) := by decide +kernel
theorem dX11_flaw_52 : decode cX11_flaw 52 = .ok (.getfield 282, 3) := by decide +kernel
theorem dX11_flaw_55 : decode cX11_flaw 55 = .ok (.aload_n 0, 1) := by decide +kernel
theorem dX11_flaw_56 : decode cX11_flaw 56 = .ok (.getfield 278, 3) := by decide +kernel
theorem dX11_flaw_59 : decode cX11_flaw 59 = .ok (.if_icmp .ge 10, 3) := by decide +kernel
theorem dX11_flaw_62 : decode cX11_flaw 62 = .ok (.aload_n 0, 1) := by decide +kernel
theorem dX11_flaw_63 : decode cX11_flaw 63 = .ok (.getfield 282, 3) := by decide +kernel
theorem dX11_flaw_66 : decode cX11_flaw 66 = .ok (.goto 5, 3) := by decide +kernel
theorem dX11_flaw_69 : decode cX11_flaw 69 = .ok (.bipush (-6), 2) := by decide +kernel
theorem dX11_flaw_71 : decode cX11_flaw 71 = .ok (.ireturn, 1) := by decide +kernel
set_option maxRecDepth 20000 in
theorem ggX11_load_X11_isPolygon : GoodIn wsX11_load wsX11_isPolygon := goodIn_r _ [8, 9, 10, 11, 7, 12] (by decide +kernel) (by decide +kernel)
set_option maxRecDepth 20000 in
theorem gX11_load_X11_isPolygon : GoodIn wsX11_load (va_wsS RX11 81 yX11_isPolygon wsX11_isPolygon) := goodIn_app (goodIn_of _ (by decide +kernel)) ggX11_load_X11_isPolygon
set_option maxRecDepth 20000 in
theorem ggX11_load_X11_flaw : GoodIn wsX11_load wsX11_flaw := goodIn_r _ [16, 17, 18, 2, 4, 19, 20, 21, 7, 22, 3, 23, 24, 25, 26, 27, 28, 29, 30, 31, 32, 33, 34, 35, 36, 37, 38, 10, 11, 12, 50, 51, 52, 53, 54, 55, 56, 57, 58, 59, 60, 61, 62, 63, 64, 65, 66, 67, 68, 69] (by decide +kernel) (by decide +kernel)
set_option maxRecDepth 20000 in
theorem gX11_load_X11_flaw : GoodIn wsX11_load (wsV RX11 306 RX11 yX11_flaw wsX11_flaw) := goodIn_app (goodIn_of _ (by decide +kernel)) ggX11_load_X11_flaw
set_option maxRecDepth 20000 in
theorem ggX11_load_X11_append : GoodIn wsX11_load wsX11_append := goodIn_r _ [42, 1, 43, 44, 45, 7, 46, 47, 48, 49, 50, 51, 52, 53, 54, 55, 56, 57, 58, 59, 60, 61, 62, 63, 64, 65, 66, 67, 68, 69] (by decide +kernel) (by decide +kernel)
set_option maxRecDepth 20000 in
theorem gX11_load_X11_append : GoodIn wsX11_load (wsV RX11 87 RX11 yX11_append wsX11_append) := goodIn_app (goodIn_of _ (by decide +kernel)) ggX11_load_X11_append
theorem dX11_load_0 : decode cX11_load 0 = .ok (.iload_n 1, 1) := by decide +kernel
theorem dX11_load_1 : decode cX11_load 1 = .ok (.invokestatic 81, 3) := by decide +kernel
theorem dX11_load_4 : decode cX11_load 4 = .ok (.ifCond .ne 5, 3) := by decide +kernel
theorem dX11_load_7 : decode cX11_load 7 = .ok (.iconst (-1), 1) := by decide +kernel
theorem dX11_load_8 : decode cX11_load 8 = .ok (.ireturn, 1) := by decide +kernel
theorem dX11_load_9 : decode cX11_load 9 = .ok (.aload_n 0, 1) := by decide +kernel
theorem dX11_load_10 : decode cX11_load 10 = .ok (.invokevirtual 306, 3) := by decide +kernel
theorem dX11_load_13 : decode cX11_load 13 = .ok (.bipush (-6), 2) := by decide +kernel
theorem dX11_load_15 : decode cX11_load 15 = .ok (.if_icmp .eq 6, 3) := by decide +kernel
theorem dX11_load_18 : decode cX11_load 18 = .ok (.bipush (-3), 2) := by decide +kernel
theorem dX11_load_20 : decode cX11_load 20 = .ok (.ireturn, 1) := by decide +kernel
theorem dX11_load_21 : decode cX11_load 21 = .ok (.aload_n 0, 1) := by decide +kernel
theorem dX11_load_22 : decode cX11_load 22 = .ok (.getfield 7, 3) := by decide +kernel
theorem dX11_load_25 : decode cX11_load 25 = .ok (.sipush 225, 3) := by decide +kernel
theorem dX11_load_28 : decode cX11_load 28 = .ok (.bipush 17, 2) := by decide +kernel
theorem dX11_load_30 : decode cX11_load 30 = .ok (.iload_n 1, 1) := by decide +kernel
theorem dX11_load_31 : decode cX11_load 31 = .ok (.imul, 1) := by decide +kernel
theorem dX11_load_32 : decode cX11_load 32 = .ok (.iadd, 1) := by decide +kernel
theorem dX11_load_33 : decode cX11_load 33 = .ok (.lconst 0, 1) := by decide +kernel
theorem dX11_load_34 : decode cX11_load 34 = .ok (.lastore, 1) := by decide +kernel
theorem dX11_load_35 : decode cX11_load 35 = .ok (.iconst 0, 1) := by decide +kernel
theorem dX11_load_36 : decode cX11_load 36 = .ok (.istore_n 2, 1) := by decide +kernel
theorem dX11_load_37 : decode cX11_load 37 = .ok (.iload_n 2, 1) := by decide +kernel
theorem dX11_load_38 : decode cX11_load 38 = .ok (.aload_n 0, 1) := by decide +kernel
theorem dX11_load_39 : decode cX11_load 39 = .ok (.getfield 297, 3) := by decide +kernel
theorem dX11_load_42 : decode cX11_load 42 = .ok (.if_icmp .ge 32, 3) := by decide +kernel
theorem dX11_load_45 : decode cX11_load 45 = .ok (.aload_n 0, 1) := by decide +kernel
theorem dX11_load_46 : decode cX11_load 46 = .ok (.iload_n 1, 1) := by decide +kernel
theorem dX11_load_47 : decode cX11_load 47 = .ok (.aload_n 0, 1) := by decide +kernel
theorem dX11_load_48 : decode cX11_load 48 = .ok (.getfield 30, 3) := by decide +kernel
theorem dX11_load_51 : decode cX11_load 51 = .ok (.iconst 2, 1) := by decide +kernel
theorem dX11_load_52 : decode cX11_load 52 = .ok (.iload_n 2, 1) := by decide +kernel
theorem dX11_load_53 : decode cX11_load 53 = .ok (.imul, 1) := by decide +kernel
theorem dX11_load_54 : decode cX11_load 54 = .ok (.iaload, 1) := by decide +kernel
theorem dX11_load_55 : decode cX11_load 55 = .ok (.aload_n 0, 1) := by decide +kernel
theorem dX11_load_56 : decode cX11_load 56 = .ok (.getfield 30, 3) := by decide +kernel
theorem dX11_load_59 : decode cX11_load 59 = .ok (.iconst 2, 1) := by decide +kernel
theorem dX11_load_60 : decode cX11_load 60 = .ok (.iload_n 2, 1) := by decide +kernel
theorem dX11_load_61 : decode cX11_load 61 = .ok (.imul, 1) := by decide +kernel
theorem dX11_load_62 : decode cX11_load 62 = .ok (.iconst 1, 1) := by decide +kernel
theorem dX11_load_63 : decode cX11_load 63 = .ok (.iadd, 1) := by decide +kernel
theorem dX11_load_64 : decode cX11_load 64 = .ok (.iaload, 1) := by decide +kernel
theorem dX11_load_65 : decode cX11_load 65 = .ok (.invokevirtual 87, 3) := by decide +kernel
theorem dX11_load_68 : decode cX11_load 68 = .ok (.iinc 2 1, 3) := by decide +kernel
theorem dX11_load_71 : decode cX11_load 71 = .ok (.goto (-34), 3) := by decide +kernel
theorem dX11_load_74 : decode cX11_load 74 = .ok (.aload_n 0, 1) := by decide +kernel
theorem dX11_load_75 : decode cX11_load 75 = .ok (.iconst 0, 1) := by decide +kernel
theorem dX11_load_76 : decode cX11_load 76 = .ok (.putfield 278, 3) := by decide +kernel
theorem dX11_load_79 : decode cX11_load 79 = .ok (.aload_n 0, 1) := by decide +kernel
theorem dX11_load_80 : decode cX11_load 80 = .ok (.getfield 297, 3) := by decide +kernel
theorem dX11_load_83 : decode cX11_load 83 = .ok (.ireturn, 1) := by decide +kernel
theorem dX11_write_0 : decode cX11_write 0 = .ok (.aload_n 0, 1) := by decide +kernel
theorem dX11_write_1 : decode cX11_write 1 = .ok (.getfield 33, 3) := by decide +kernel
theorem dX11_write_4 : decode cX11_write 4 = .ok (.aload_n 0, 1) := by decide +kernel
theorem dX11_write_5 : decode cX11_write 5 = .ok (.getfield 309, 3) := by decide +kernel
theorem dX11_write_8 : decode cX11_write 8 = .ok (.iload_n 1, 1) := by decide +kernel
theorem dX11_write_9 : decode cX11_write 9 = .ok (.iastore, 1) := by decide +kernel
theorem dX11_write_10 : decode cX11_write 10 = .ok (.aload_n 0, 1) := by decide +kernel
theorem dX11_write_11 : decode cX11_write 11 = .ok (.dup, 1) := by decide +kernel
theorem dX11_write_12 : decode cX11_write 12 = .ok (.getfield 309, 3) := by decide +kernel
theorem dX11_write_15 : decode cX11_write 15 = .ok (.iconst 1, 1) := by decide +kernel
theorem dX11_write_16 : decode cX11_write 16 = .ok (.iadd, 1) := by decide +kernel
theorem dX11_write_17 : decode cX11_write 17 = .ok (.putfield 309, 3) := by decide +kernel
theorem dX11_write_20 : decode cX11_write 20 = .ok (.return_, 1) := by decide +kernel
set_option maxRecDepth 20000 in
theorem ggX11_writeNumber_X11_write : GoodIn wsX11_writeNumber wsX11_write := goodIn_r _ [6, 7, 8, 12, 13, 14, 15, 16, 17, 18, 19, 20, 21, 22, 23, 24, 25, 26, 27, 28, 29, 30, 31] (by decide +kernel) (by decide +kernel)
set_option maxRecDepth 20000 in
theorem gX11_writeNumber_X11_write : GoodIn wsX11_writeNumber (wsV RX11 312 RX11 yX11_write wsX11_write) := goodIn_app (goodIn_of _ (by decide +kernel)) ggX11_writeNumber_X11_write
set_option maxRecDepth 20000 in
theorem ggX11_writeNumber_X11_size : GoodIn wsX11_writeNumber wsX11_size := goodIn_r _ [11] (by decide +kernel) (by decide +kernel)
set_option maxRecDepth 20000 in
theorem gX11_writeNumber_X11_size : GoodIn wsX11_writeNumber (va_wsS RX11 194 yX11_size wsX11_size) := goodIn_app (goodIn_of _ (by decide +kernel)) ggX11_writeNumber_X11_size
theorem dX11_writeNumber_0 : decode cX11_writeNumber 0 = .ok (.lload_n 1, 1) := by decide +kernel
theorem dX11_writeNumber_1 : decode cX11_writeNumber 1 = .ok (.lconst 0, 1) := by decide +kernel
theorem dX11_writeNumber_2 : decode cX11_writeNumber 2 = .ok (.lcmp, 1) := by decide +kernel
theorem dX11_writeNumber_3 : decode cX11_writeNumber 3 = .ok (.ifCond .ge 9, 3) := by decide +kernel
theorem dX11_writeNumber_6 : decode cX11_writeNumber 6 = .ok (.aload_n 0, 1) := by decide +kernel
theorem dX11_writeNumber_7 : decode cX11_writeNumber 7 = .ok (.bipush 45, 2) := by decide +kernel
theorem dX11_writeNumber_9 : decode cX11_writeNumber 9 = .ok (.invokevirtual 312, 3) := by decide +kernel
theorem dX11_writeNumber_12 : decode cX11_writeNumber 12 = .ok (.lload_n 1, 1) := by decide +kernel
theorem dX11_writeNumber_13 : decode cX11_writeNumber 13 = .ok (.invokestatic 194, 3) := by decide +kernel
theorem dX11_writeNumber_16 : decode cX11_writeNumber 16 = .ok (.lstore_n 3, 1) := by decide +kernel
theorem dX11_writeNumber_17 : decode cX11_writeNumber 17 = .ok (.lconst 1, 1) := by decide +kernel
theorem dX11_writeNumber_18 : decode cX11_writeNumber 18 = .ok (.lstore 5, 2) := by decide +kernel
theorem dX11_writeNumber_20 : decode cX11_writeNumber 20 = .ok (.lload_n 3, 1) := by decide +kernel
theorem dX11_writeNumber_21 : decode cX11_writeNumber 21 = .ok (.lload 5, 2) := by decide +kernel
theorem dX11_writeNumber_23 : decode cX11_writeNumber 23 = .ok (.ldiv, 1) := by decide +kernel
theorem dX11_writeNumber_24 : decode cX11_writeNumber 24 = .ok (.ldc2_w 315, 3) := by decide +kernel
theorem dX11_writeNumber_27 : decode cX11_writeNumber 27 = .ok (.lcmp, 1) := by decide +kernel
theorem dX11_writeNumber_28 : decode cX11_writeNumber 28 = .ok (.ifCond .lt 14, 3) := by decide +kernel
theorem dX11_writeNumber_31 : decode cX11_writeNumber 31 = .ok (.lload 5, 2) := by decide +kernel
theorem dX11_writeNumber_33 : decode cX11_writeNumber 33 = .ok (.ldc2_w 315, 3) := by decide +kernel
theorem dX11_writeNumber_36 : decode cX11_writeNumber 36 = .ok (.lmul, 1) := by decide +kernel
theorem dX11_writeNumber_37 : decode cX11_writeNumber 37 = .ok (.lstore 5, 2) := by decide +kernel
theorem dX11_writeNumber_39 : decode cX11_writeNumber 39 = .ok (.goto (-19), 3) := by decide +kernel
theorem dX11_writeNumber_42 : decode cX11_writeNumber 42 = .ok (.lload 5, 2) := by decide +kernel
theorem dX11_writeNumber_44 : decode cX11_writeNumber 44 = .ok (.lconst 0, 1) := by decide +kernel
theorem dX11_writeNumber_45 : decode cX11_writeNumber 45 = .ok (.lcmp, 1) := by decide +kernel
theorem dX11_writeNumber_46 : decode cX11_writeNumber 46 = .ok (.ifCond .le 30, 3) := by decide +kernel
theorem dX11_writeNumber_49 : decode cX11_writeNumber 49 = .ok (.aload_n 0, 1) := by decide +kernel
theorem dX11_writeNumber_50 : decode cX11_writeNumber 50 = .ok (.bipush 48, 2) := by decide +kernel
theorem dX11_writeNumber_52 : decode cX11_writeNumber 52 = .ok (.lload_n 3, 1) := by decide +kernel
theorem dX11_writeNumber_53 : decode cX11_writeNumber 53 = .ok (.lload 5, 2) := by decide +kernel
theorem dX11_writeNumber_55 : decode cX11_writeNumber 55 = .ok (.ldiv, 1) := by decide +kernel
theorem dX11_writeNumber_56 : decode cX11_writeNumber 56 = .ok (.ldc2_w 315, 3) := by decide +kernel
theorem dX11_writeNumber_59 : decode cX11_writeNumber 59 = .ok (.lrem, 1) := by decide +kernel
theorem dX11_writeNumber_60 : decode cX11_writeNumber 60 = .ok (.l2i, 1) := by decide +kernel
theorem dX11_writeNumber_61 : decode cX11_writeNumber 61 = .ok (.iadd, 1) := by decide +kernel
theorem dX11_writeNumber_62 : decode cX11_writeNumber 62 = .ok (.invokevirtual 312, 3) := by decide +kernel
theorem dX11_writeNumber_65 : decode cX11_writeNumber 65 = .ok (.lload 5, 2) := by decide +kernel
theorem dX11_writeNumber_67 : decode cX11_writeNumber 67 = .ok (.ldc2_w 315, 3) := by decide +kernel
theorem dX11_writeNumber_70 : decode cX11_writeNumber 70 = .ok (.ldiv, 1) := by decide +kernel
theorem dX11_writeNumber_71 : decode cX11_writeNumber 71 = .ok (.lstore 5, 2) := by decide +kernel
theorem dX11_writeNumber_73 : decode cX11_writeNumber 73 = .ok (.goto (-31), 3) := by decide +kernel
theorem dX11_writeNumber_76 : decode cX11_writeNumber 76 = .ok (.return_, 1) := by decide +kernel
set_option maxRecDepth 20000 in
theorem ggX11_spell_X11_isPolygon : GoodIn wsX11_spell wsX11_isPolygon := goodIn_r _ [7, 8, 9, 10, 6, 11] (by decide +kernel) (by decide +kernel)
set_option maxRecDepth 20000 in
theorem gX11_spell_X11_isPolygon : GoodIn wsX11_spell (va_wsS RX11 81 yX11_isPolygon wsX11_isPolygon) := goodIn_app (goodIn_of _ (by decide +kernel)) ggX11_spell_X11_isPolygon
set_option maxRecDepth 20000 in
theorem ggX11_spell_X11_corners : GoodIn wsX11_spell wsX11_corners := goodIn_r _ [15, 2, 31, 32, 33, 34, 35, 36, 37, 38, 39, 40, 41, 42, 43, 44, 45, 46, 47, 48, 49, 50] (by decide +kernel) (by decide +kernel)
set_option maxRecDepth 20000 in
theorem gX11_spell_X11_corners : GoodIn wsX11_spell (wsV RX11 74 RX11 yX11_corners wsX11_corners) := goodIn_app (goodIn_of _ (by decide +kernel)) ggX11_spell_X11_corners
set_option maxRecDepth 20000 in
theorem ggX11_spell_X11_write : GoodIn wsX11_spell wsX11_write := goodIn_r _ [19, 3, 1, 31, 32, 33, 34, 35, 36, 37, 38, 39, 40, 41, 42, 43, 44, 45, 46, 47, 48, 49, 50] (by decide +kernel) (by decide +kernel)
set_option maxRecDepth 20000 in
theorem gX11_spell_X11_write : GoodIn wsX11_spell (wsV RX11 312 RX11 yX11_write wsX11_write) := goodIn_app (goodIn_of _ (by decide +kernel)) ggX11_spell_X11_write
set_option maxRecDepth 20000 in
theorem ggX11_spell_X11_cornerAt : GoodIn wsX11_spell wsX11_cornerAt := goodIn_r _ [22] (by decide +kernel) (by decide +kernel)
set_option maxRecDepth 20000 in
theorem gX11_spell_X11_cornerAt : GoodIn wsX11_spell (va_wsS RX11 77 yX11_cornerAt wsX11_cornerAt) := goodIn_app (goodIn_of _ (by decide +kernel)) ggX11_spell_X11_cornerAt
set_option maxRecDepth 20000 in
theorem ggX11_spell_X11_writeNumber : GoodIn wsX11_spell wsX11_writeNumber := goodIn_r _ [26, 27, 16, 17, 18, 6, 19, 3, 1, 28, 29, 30, 31, 32, 33, 34, 35, 36, 37, 38, 39, 40, 41, 42, 43, 44, 45, 46, 47, 48, 49, 50] (by decide +kernel) (by decide +kernel)
set_option maxRecDepth 20000 in
theorem gX11_spell_X11_writeNumber : GoodIn wsX11_spell (wsV RX11 317 RX11 yX11_writeNumber wsX11_writeNumber) := goodIn_app (goodIn_of _ (by decide +kernel)) ggX11_spell_X11_writeNumber
set_option maxRecDepth 20000 in
theorem ggX11_spell_X11_in : GoodIn wsX11_spell wsX11_in := goodIn_r _ [11] (by decide +kernel) (by decide +kernel)
set_option maxRecDepth 20000 in
theorem gX11_spell_X11_in : GoodIn wsX11_spell (va_wsS RX11 68 yX11_in wsX11_in) := goodIn_app (goodIn_of _ (by decide +kernel)) ggX11_spell_X11_in
theorem dX11_spell_0 : decode cX11_spell 0 = .ok (.iload_n 1, 1) := by decide +kernel
theorem dX11_spell_1 : decode cX11_spell 1 = .ok (.invokestatic 81, 3) := by decide +kernel
theorem dX11_spell_4 : decode cX11_spell 4 = .ok (.ifCond .ne 5, 3) := by decide +kernel
theorem dX11_spell_7 : decode cX11_spell 7 = .ok (.iconst (-1), 1) := by decide +kernel
theorem dX11_spell_8 : decode cX11_spell 8 = .ok (.ireturn, 1) := by decide +kernel
theorem dX11_spell_9 : decode cX11_spell 9 = .ok (.aload_n 0, 1) := by decide +kernel
theorem dX11_spell_10 : decode cX11_spell 10 = .ok (.iconst 0, 1) := by decide +kernel
theorem dX11_spell_11 : decode cX11_spell 11 = .ok (.putfield 309, 3) := by decide +kernel
theorem dX11_spell_14 : decode cX11_spell 14 = .ok (.iconst 0, 1) := by decide +kernel
theorem dX11_spell_15 : decode cX11_spell 15 = .ok (.istore_n 3, 1) := by decide +kernel
theorem dX11_spell_16 : decode cX11_spell 16 = .ok (.iload_n 3, 1) := by decide +kernel
theorem dX11_spell_17 : decode cX11_spell 17 = .ok (.aload_n 0, 1) := by decide +kernel
theorem dX11_spell_18 : decode cX11_spell 18 = .ok (.iload_n 1, 1) := by decide +kernel
theorem dX11_spell_19 : decode cX11_spell 19 = .ok (.invokevirtual 74, 3) := by decide +kernel
theorem dX11_spell_22 : decode cX11_spell 22 = .ok (.if_icmp .ge 55, 3) := by decide +kernel
theorem dX11_spell_25 : decode cX11_spell 25 = .ok (.iload_n 3, 1) := by decide +kernel
theorem dX11_spell_26 : decode cX11_spell 26 = .ok (.ifCond .le 9, 3) := by decide +kernel
theorem dX11_spell_29 : decode cX11_spell 29 = .ok (.aload_n 0, 1) := by decide +kernel
theorem dX11_spell_30 : decode cX11_spell 30 = .ok (.bipush 47, 2) := by decide +kernel
theorem dX11_spell_32 : decode cX11_spell 32 = .ok (.invokevirtual 312, 3) := by decide +kernel
theorem dX11_spell_35 : decode cX11_spell 35 = .ok (.aload_n 0, 1) := by decide +kernel
theorem dX11_spell_36 : decode cX11_spell 36 = .ok (.aload_n 0, 1) := by decide +kernel
theorem dX11_spell_37 : decode cX11_spell 37 = .ok (.getfield 7, 3) := by decide +kernel
theorem dX11_spell_40 : decode cX11_spell 40 = .ok (.iload_n 1, 1) := by decide +kernel
theorem dX11_spell_41 : decode cX11_spell 41 = .ok (.iload_n 3, 1) := by decide +kernel
theorem dX11_spell_42 : decode cX11_spell 42 = .ok (.iconst 0, 1) := by decide +kernel
theorem dX11_spell_43 : decode cX11_spell 43 = .ok (.invokestatic 77, 3) := by decide +kernel
theorem dX11_spell_46 : decode cX11_spell 46 = .ok (.laload, 1) := by decide +kernel
theorem dX11_spell_47 : decode cX11_spell 47 = .ok (.invokevirtual 317, 3) := by decide +kernel
theorem dX11_spell_50 : decode cX11_spell 50 = .ok (.aload_n 0, 1) := by decide +kernel
theorem dX11_spell_51 : decode cX11_spell 51 = .ok (.bipush 44, 2) := by decide +kernel
theorem dX11_spell_53 : decode cX11_spell 53 = .ok (.invokevirtual 312, 3) := by decide +kernel
theorem dX11_spell_56 : decode cX11_spell 56 = .ok (.aload_n 0, 1) := by decide +kernel
theorem dX11_spell_57 : decode cX11_spell 57 = .ok (.aload_n 0, 1) := by decide +kernel
theorem dX11_spell_58 : decode cX11_spell 58 = .ok (.getfield 7, 3) := by decide +kernel
theorem dX11_spell_61 : decode cX11_spell 61 = .ok (.iload_n 1, 1) := by decide +kernel
theorem dX11_spell_62 : decode cX11_spell 62 = .ok (.iload_n 3, 1) := by decide +kernel
theorem dX11_spell_63 : decode cX11_spell 63 = .ok (.iconst 1, 1) := by decide +kernel
theorem dX11_spell_64 : decode cX11_spell 64 = .ok (.invokestatic 77, 3) := by decide +kernel
theorem dX11_spell_67 : decode cX11_spell 67 = .ok (.laload, 1) := by decide +kernel
theorem dX11_spell_68 : decode cX11_spell 68 = .ok (.invokevirtual 317, 3) := by decide +kernel
theorem dX11_spell_71 : decode cX11_spell 71 = .ok (.iinc 3 1, 3) := by decide +kernel
theorem dX11_spell_74 : decode cX11_spell 74 = .ok (.goto (-58), 3) := by decide +kernel
theorem dX11_spell_77 : decode cX11_spell 77 = .ok (.iload_n 2, 1) := by decide +kernel
theorem dX11_spell_78 : decode cX11_spell 78 = .ok (.iconst (-1), 1) := by decide +kernel
theorem dX11_spell_79 : decode cX11_spell 79 = .ok (.if_icmp .ne 10, 3) := by decide +kernel
theorem dX11_spell_82 : decode cX11_spell 82 = .ok (.aload_n 0, 1) := by decide +kernel
theorem dX11_spell_83 : decode cX11_spell 83 = .ok (.getfield 309, 3) := by decide +kernel
theorem dX11_spell_86 : decode cX11_spell 86 = .ok (.goto 30, 3) := by decide +kernel
theorem dX11_spell_89 : decode cX11_spell 89 = .ok (.iload_n 2, 1) := by decide +kernel
theorem dX11_spell_90 : decode cX11_spell 90 = .ok (.i2l, 1) := by decide +kernel
theorem dX11_spell_91 : decode cX11_spell 91 = .ok (.lconst 0, 1) := by decide +kernel
theorem dX11_spell_92 : decode cX11_spell 92 = .ok (.aload_n 0, 1) := by decide +kernel
theorem dX11_spell_93 : decode cX11_spell 93 = .ok (.getfield 309, 3) := by decide +kernel
theorem dX11_spell_96 : decode cX11_spell 96 = .ok (.iconst 1, 1) := by decide +kernel
theorem dX11_spell_97 : decode cX11_spell 97 = .ok (.isub, 1) := by decide +kernel
theorem dX11_spell_98 : decode cX11_spell 98 = .ok (.i2l, 1) := by decide +kernel
theorem dX11_spell_99 : decode cX11_spell 99 = .ok (.invokestatic 68, 3) := by decide +kernel
theorem dX11_spell_102 : decode cX11_spell 102 = .ok (.ifCond .eq 12, 3) := by decide +kernel
theorem dX11_spell_105 : decode cX11_spell 105 = .ok (.aload_n 0, 1) := by decide +kernel
theorem dX11_spell_106 : decode cX11_spell 106 = .ok (.getfield 33, 3) := by decide +kernel
theorem dX11_spell_109 : decode cX11_spell 109 = .ok (.iload_n 2, 1) := by decide +kernel
theorem dX11_spell_110 : decode cX11_spell 110 = .ok (.iaload, 1) := by decide +kernel
theorem dX11_spell_111 : decode cX11_spell 111 = .ok (.goto 5, 3) := by decide +kernel
theorem dX11_spell_114 : decode cX11_spell 114 = .ok (.bipush (-6), 2) := by decide +kernel
theorem dX11_spell_116 : decode cX11_spell 116 = .ok (.ireturn, 1) := by decide +kernel
set_option maxRecDepth 20000 in
theorem ggX11_count_X11_in : GoodIn wsX11_count wsX11_in := goodIn_r _ [7] (by decide +kernel) (by decide +kernel)
set_option maxRecDepth 20000 in
theorem gX11_count_X11_in : GoodIn wsX11_count (va_wsS RX11 68 yX11_in wsX11_in) := goodIn_app (goodIn_of _ (by decide +kernel)) ggX11_count_X11_in
theorem dX11_count_0 : decode cX11_count 0 = .ok (.iload_n 1, 1) := by decide +kernel
theorem dX11_count_1 : decode cX11_count 1 = .ok (.i2l, 1) := by decide +kernel
theorem dX11_count_2 : decode cX11_count 2 = .ok (.lconst 0, 1) := by decide +kernel
theorem dX11_count_3 : decode cX11_count 3 = .ok (.ldc2_w 321, 3) := by decide +kernel
theorem dX11_count_6 : decode cX11_count 6 = .ok (.invokestatic 68, 3) := by decide +kernel
theorem dX11_count_9 : decode cX11_count 9 = .ok (.ifCond .ne 6, 3) := by decide +kernel
theorem dX11_count_12 : decode cX11_count 12 = .ok (.bipush (-2), 2) := by decide +kernel
theorem dX11_count_14 : decode cX11_count 14 = .ok (.ireturn, 1) := by decide +kernel
theorem dX11_count_15 : decode cX11_count 15 = .ok (.iload_n 1, 1) := by decide +kernel
theorem dX11_count_16 : decode cX11_count 16 = .ok (.tableswitch 51 0 2 #[28, 37, 46], 28) := by decide +kernel
theorem dX11_count_44 : decode cX11_count 44 = .ok (.aload_n 0, 1) := by decide +kernel
theorem dX11_count_45 : decode cX11_count 45 = .ok (.getfield 7, 3) := by decide +kernel
theorem dX11_count_48 : decode cX11_count 48 = .ok (.bipush 35, 2) := by decide +kernel
theorem dX11_count_50 : decode cX11_count 50 = .ok (.laload, 1) := by decide +kernel
theorem dX11_count_51 : decode cX11_count 51 = .ok (.l2i, 1) := by decide +kernel
theorem dX11_count_52 : decode cX11_count 52 = .ok (.ireturn, 1) := by decide +kernel
theorem dX11_count_53 : decode cX11_count 53 = .ok (.aload_n 0, 1) := by decide +kernel
theorem dX11_count_54 : decode cX11_count 54 = .ok (.getfield 7, 3) := by decide +kernel
theorem dX11_count_57 : decode cX11_count 57 = .ok (.bipush 104, 2) := by decide +kernel
theorem dX11_count_59 : decode cX11_count 59 = .ok (.laload, 1) := by decide +kernel
theorem dX11_count_60 : decode cX11_count 60 = .ok (.l2i, 1) := by decide +kernel
theorem dX11_count_61 : decode cX11_count 61 = .ok (.ireturn, 1) := by decide +kernel
theorem dX11_count_62 : decode cX11_count 62 = .ok (.aload_n 0, 1) := by decide +kernel
theorem dX11_count_63 : decode cX11_count 63 = .ok (.getfield 278, 3) := by decide +kernel
theorem dX11_count_66 : decode cX11_count 66 = .ok (.ireturn, 1) := by decide +kernel
theorem dX11_count_67 : decode cX11_count 67 = .ok (.iload_n 1, 1) := by decide +kernel
theorem dX11_count_68 : decode cX11_count 68 = .ok (.bipush 10, 2) := by decide +kernel
theorem dX11_count_70 : decode cX11_count 70 = .ok (.if_icmp .ge 17, 3) := by decide +kernel
theorem dX11_count_73 : decode cX11_count 73 = .ok (.aload_n 0, 1) := by decide +kernel
theorem dX11_count_74 : decode cX11_count 74 = .ok (.getfield 7, 3) := by decide +kernel
theorem dX11_count_77 : decode cX11_count 77 = .ok (.bipush 14, 2) := by decide +kernel
theorem dX11_count_79 : decode cX11_count 79 = .ok (.iload_n 1, 1) := by decide +kernel
theorem dX11_count_80 : decode cX11_count 80 = .ok (.iadd, 1) := by decide +kernel
theorem dX11_count_81 : decode cX11_count 81 = .ok (.iconst 3, 1) := by decide +kernel
theorem dX11_count_82 : decode cX11_count 82 = .ok (.isub, 1) := by decide +kernel
theorem dX11_count_83 : decode cX11_count 83 = .ok (.laload, 1) := by decide +kernel
theorem dX11_count_84 : decode cX11_count 84 = .ok (.goto 15, 3) := by decide +kernel
theorem dX11_count_87 : decode cX11_count 87 = .ok (.aload_n 0, 1) := by decide +kernel
theorem dX11_count_88 : decode cX11_count 88 = .ok (.getfield 7, 3) := by decide +kernel
theorem dX11_count_91 : decode cX11_count 91 = .ok (.bipush 21, 2) := by decide +kernel
theorem dX11_count_93 : decode cX11_count 93 = .ok (.iload_n 1, 1) := by decide +kernel
theorem dX11_count_94 : decode cX11_count 94 = .ok (.iadd, 1) := by decide +kernel
theorem dX11_count_95 : decode cX11_count 95 = .ok (.bipush 10, 2) := by decide +kernel
theorem dX11_count_97 : decode cX11_count 97 = .ok (.isub, 1) := by decide +kernel
theorem dX11_count_98 : decode cX11_count 98 = .ok (.laload, 1) := by decide +kernel
theorem dX11_count_99 : decode cX11_count 99 = .ok (.l2i, 1) := by decide +kernel
theorem dX11_count_100 : decode cX11_count 100 = .ok (.ireturn, 1) := by decide +kernel
set_option maxRecDepth 20000 in
theorem ggX11_save_X11_in : GoodIn wsX11_save wsX11_in := goodIn_r _ [7] (by decide +kernel) (by decide +kernel)
set_option maxRecDepth 20000 in
theorem gX11_save_X11_in : GoodIn wsX11_save (va_wsS RX11 68 yX11_in wsX11_in) := goodIn_app (goodIn_of _ (by decide +kernel)) ggX11_save_X11_in
theorem dX11_save_0 : decode cX11_save 0 = .ok (.iload_n 1, 1) := by decide +kernel
theorem dX11_save_1 : decode cX11_save 1 = .ok (.i2l, 1) := by decide +kernel
theorem dX11_save_2 : decode cX11_save 2 = .ok (.lconst 0, 1) := by decide +kernel
theorem dX11_save_3 : decode cX11_save 3 = .ok (.lconst 1, 1) := by decide +kernel
theorem dX11_save_4 : decode cX11_save 4 = .ok (.invokestatic 68, 3) := by decide +kernel
theorem dX11_save_7 : decode cX11_save 7 = .ok (.ifCond .ne 6, 3) := by decide +kernel
theorem dX11_save_10 : decode cX11_save 10 = .ok (.bipush (-2), 2) := by decide +kernel
theorem dX11_save_12 : decode cX11_save 12 = .ok (.ireturn, 1) := by decide +kernel
theorem dX11_save_13 : decode cX11_save 13 = .ok (.iconst 0, 1) := by decide +kernel
theorem dX11_save_14 : decode cX11_save 14 = .ok (.istore_n 2, 1) := by decide +kernel
theorem dX11_save_15 : decode cX11_save 15 = .ok (.iload_n 2, 1) := by decide +kernel
theorem dX11_save_16 : decode cX11_save 16 = .ok (.sipush 310, 3) := by decide +kernel
theorem dX11_save_19 : decode cX11_save 19 = .ok (.if_icmp .ge 27, 3) := by decide +kernel
theorem dX11_save_22 : decode cX11_save 22 = .ok (.aload_n 0, 1) := by decide +kernel
theorem dX11_save_23 : decode cX11_save 23 = .ok (.getfield 16, 3) := by decide +kernel
theorem dX11_save_26 : decode cX11_save 26 = .ok (.sipush 310, 3) := by decide +kernel
theorem dX11_save_29 : decode cX11_save 29 = .ok (.iload_n 1, 1) := by decide +kernel
theorem dX11_save_30 : decode cX11_save 30 = .ok (.imul, 1) := by decide +kernel
theorem dX11_save_31 : decode cX11_save 31 = .ok (.iload_n 2, 1) := by decide +kernel
theorem dX11_save_32 : decode cX11_save 32 = .ok (.iadd, 1) := by decide +kernel
theorem dX11_save_33 : decode cX11_save 33 = .ok (.aload_n 0, 1) := by decide +kernel
theorem dX11_save_34 : decode cX11_save 34 = .ok (.getfield 7, 3) := by decide +kernel
theorem dX11_save_37 : decode cX11_save 37 = .ok (.iload_n 2, 1) := by decide +kernel
theorem dX11_save_38 : decode cX11_save 38 = .ok (.laload, 1) := by decide +kernel
theorem dX11_save_39 : decode cX11_save 39 = .ok (.lastore, 1) := by decide +kernel
theorem dX11_save_40 : decode cX11_save 40 = .ok (.iinc 2 1, 3) := by decide +kernel
theorem dX11_save_43 : decode cX11_save 43 = .ok (.goto (-28), 3) := by decide +kernel
theorem dX11_save_46 : decode cX11_save 46 = .ok (.aload_n 0, 1) := by decide +kernel
theorem dX11_save_47 : decode cX11_save 47 = .ok (.getfield 19, 3) := by decide +kernel
theorem dX11_save_50 : decode cX11_save 50 = .ok (.iload_n 1, 1) := by decide +kernel
theorem dX11_save_51 : decode cX11_save 51 = .ok (.iconst 1, 1) := by decide +kernel
theorem dX11_save_52 : decode cX11_save 52 = .ok (.bastore, 1) := by decide +kernel
theorem dX11_save_53 : decode cX11_save 53 = .ok (.aload_n 0, 1) := by decide +kernel
theorem dX11_save_54 : decode cX11_save 54 = .ok (.getfield 7, 3) := by decide +kernel
theorem dX11_save_57 : decode cX11_save 57 = .ok (.bipush 35, 2) := by decide +kernel
theorem dX11_save_59 : decode cX11_save 59 = .ok (.laload, 1) := by decide +kernel
theorem dX11_save_60 : decode cX11_save 60 = .ok (.l2i, 1) := by decide +kernel
theorem dX11_save_61 : decode cX11_save 61 = .ok (.ireturn, 1) := by decide +kernel
set_option maxRecDepth 20000 in
theorem ggX11_restore_X11_in : GoodIn wsX11_restore wsX11_in := goodIn_r _ [7] (by decide +kernel) (by decide +kernel)
set_option maxRecDepth 20000 in
theorem gX11_restore_X11_in : GoodIn wsX11_restore (va_wsS RX11 68 yX11_in wsX11_in) := goodIn_app (goodIn_of _ (by decide +kernel)) ggX11_restore_X11_in
theorem dX11_restore_0 : decode cX11_restore 0 = .ok (.iload_n 1, 1) := by decide +kernel
theorem dX11_restore_1 : decode cX11_restore 1 = .ok (.i2l, 1) := by decide +kernel
theorem dX11_restore_2 : decode cX11_restore 2 = .ok (.lconst 0, 1) := by decide +kernel
theorem dX11_restore_3 : decode cX11_restore 3 = .ok (.lconst 1, 1) := by decide +kernel
theorem dX11_restore_4 : decode cX11_restore 4 = .ok (.invokestatic 68, 3) := by decide +kernel
theorem dX11_restore_7 : decode cX11_restore 7 = .ok (.ifCond .ne 6, 3) := by decide +kernel
theorem dX11_restore_10 : decode cX11_restore 10 = .ok (.bipush (-2), 2) := by decide +kernel
theorem dX11_restore_12 : decode cX11_restore 12 = .ok (.ireturn, 1) := by decide +kernel
theorem dX11_restore_13 : decode cX11_restore 13 = .ok (.aload_n 0, 1) := by decide +kernel
theorem dX11_restore_14 : decode cX11_restore 14 = .ok (.getfield 19, 3) := by decide +kernel
theorem dX11_restore_17 : decode cX11_restore 17 = .ok (.iload_n 1, 1) := by decide +kernel
theorem dX11_restore_18 : decode cX11_restore 18 = .ok (.baload, 1) := by decide +kernel
theorem dX11_restore_19 : decode cX11_restore 19 = .ok (.ifCond .ne 6, 3) := by decide +kernel
theorem dX11_restore_22 : decode cX11_restore 22 = .ok (.bipush (-5), 2) := by decide +kernel
theorem dX11_restore_24 : decode cX11_restore 24 = .ok (.ireturn, 1) := by decide +kernel
theorem dX11_restore_25 : decode cX11_restore 25 = .ok (.iconst 0, 1) := by decide +kernel
theorem dX11_restore_26 : decode cX11_restore 26 = .ok (.istore_n 2, 1) := by decide +kernel
theorem dX11_restore_27 : decode cX11_restore 27 = .ok (.iload_n 2, 1) := by decide +kernel
theorem dX11_restore_28 : decode cX11_restore 28 = .ok (.sipush 310, 3) := by decide +kernel
theorem dX11_restore_31 : decode cX11_restore 31 = .ok (.if_icmp .ge 27, 3) := by decide +kernel
theorem dX11_restore_34 : decode cX11_restore 34 = .ok (.aload_n 0, 1) := by decide +kernel
theorem dX11_restore_35 : decode cX11_restore 35 = .ok (.getfield 7, 3) := by decide +kernel
theorem dX11_restore_38 : decode cX11_restore 38 = .ok (.iload_n 2, 1) := by decide +kernel
theorem dX11_restore_39 : decode cX11_restore 39 = .ok (.aload_n 0, 1) := by decide +kernel
theorem dX11_restore_40 : decode cX11_restore 40 = .ok (.getfield 16, 3) := by decide +kernel
theorem dX11_restore_43 : decode cX11_restore 43 = .ok (.sipush 310, 3) := by decide +kernel
theorem dX11_restore_46 : decode cX11_restore 46 = .ok (.iload_n 1, 1) := by decide +kernel
theorem dX11_restore_47 : decode cX11_restore 47 = .ok (.imul, 1) := by decide +kernel
theorem dX11_restore_48 : decode cX11_restore 48 = .ok (.iload_n 2, 1) := by decide +kernel
theorem dX11_restore_49 : decode cX11_restore 49 = .ok (.iadd, 1) := by decide +kernel
theorem dX11_restore_50 : decode cX11_restore 50 = .ok (.laload, 1) := by decide +kernel
theorem dX11_restore_51 : decode cX11_restore 51 = .ok (.lastore, 1) := by decide +kernel
theorem dX11_restore_52 : decode cX11_restore 52 = .ok (.iinc 2 1, 3) := by decide +kernel
theorem dX11_restore_55 : decode cX11_restore 55 = .ok (.goto (-28), 3) := by decide +kernel
theorem dX11_restore_58 : decode cX11_restore 58 = .ok (.aload_n 0, 1) := by decide +kernel
theorem dX11_restore_59 : decode cX11_restore 59 = .ok (.getfield 7, 3) := by decide +kernel
theorem dX11_restore_62 : decode cX11_restore 62 = .ok (.bipush 35, 2) := by decide +kernel
theorem dX11_restore_64 : decode cX11_restore 64 = .ok (.laload, 1) := by decide +kernel
theorem dX11_restore_65 : decode cX11_restore 65 = .ok (.l2i, 1) := by decide +kernel
theorem dX11_restore_66 : decode cX11_restore 66 = .ok (.ireturn, 1) := by decide +kernel
set_option maxRecDepth 20000 in
theorem ggJ5_init_d00df_J2_newBytesFor_77867 : GoodIn wsJ5_init_d00df wsJ2_newBytesFor_77867 := goodIn_r _ [11, 5, 12, 13, 10, 14, 15] (by decide +kernel) (by decide +kernel)
set_option maxRecDepth 20000 in
theorem gJ5_init_d00df_J2_newBytesFor_77867 : GoodIn wsJ5_init_d00df (va_wsS RJ5 26 yJ2_newBytesFor_77867 wsJ2_newBytesFor_77867) := goodIn_app (goodIn_of _ (by decide +kernel)) ggJ5_init_d00df_J2_newBytesFor_77867
theorem dJ5_init_d00df_0 : decode cJ5_init_d00df 0 = .ok (.aload_n 0, 1) := by decide +kernel
theorem dJ5_init_d00df_1 : decode cJ5_init_d00df 1 = .ok (.invokespecial 3, 3) := by decide +kernel
theorem dJ5_init_d00df_4 : decode cJ5_init_d00df 4 = .ok (.getstatic 18, 3) := by decide +kernel
theorem dJ5_init_d00df_7 : decode cJ5_init_d00df 7 = .ok (.ifCond .eq 18, 3) := by decide +kernel
theorem dJ5_init_d00df_10 : decode cJ5_init_d00df 10 = .ok (.aload_n 0, 1) := by decide +kernel
theorem dJ5_init_d00df_11 : decode cJ5_init_d00df 11 = .ok (.iload_n 1, 1) := by decide +kernel
theorem dJ5_init_d00df_12 : decode cJ5_init_d00df 12 = .ok (.newarray .byte, 2) := by decide +kernel
theorem dJ5_init_d00df_14 : decode cJ5_init_d00df 14 = .ok (.putfield 15, 3) := by decide +kernel
theorem dJ5_init_d00df_17 : decode cJ5_init_d00df 17 = .ok (.aload_n 0, 1) := by decide +kernel
theorem dJ5_init_d00df_18 : decode cJ5_init_d00df 18 = .ok (.iconst 0, 1) := by decide +kernel
theorem dJ5_init_d00df_19 : decode cJ5_init_d00df 19 = .ok (.putfield 22, 3) := by decide +kernel
theorem dJ5_init_d00df_22 : decode cJ5_init_d00df 22 = .ok (.goto 16, 3) := by decide +kernel
theorem dJ5_init_d00df_25 : decode cJ5_init_d00df 25 = .ok (.aload_n 0, 1) := by decide +kernel
theorem dJ5_init_d00df_26 : decode cJ5_init_d00df 26 = .ok (.iload_n 1, 1) := by decide +kernel
theorem dJ5_init_d00df_27 : decode cJ5_init_d00df 27 = .ok (.invokestatic 26, 3) := by decide +kernel
theorem dJ5_init_d00df_30 : decode cJ5_init_d00df 30 = .ok (.putfield 15, 3) := by decide +kernel
theorem dJ5_init_d00df_33 : decode cJ5_init_d00df 33 = .ok (.aload_n 0, 1) := by decide +kernel
theorem dJ5_init_d00df_34 : decode cJ5_init_d00df 34 = .ok (.iconst 1, 1) := by decide +kernel
theorem dJ5_init_d00df_35 : decode cJ5_init_d00df 35 = .ok (.putfield 22, 3) := by decide +kernel
theorem dJ5_init_d00df_38 : decode cJ5_init_d00df 38 = .ok (.return_, 1) := by decide +kernel
theorem dJ5_length_8abf5_0 : decode cJ5_length_8abf5 0 = .ok (.aload_n 0, 1) := by decide +kernel
theorem dJ5_length_8abf5_1 : decode cJ5_length_8abf5 1 = .ok (.getfield 79, 3) := by decide +kernel
theorem dJ5_length_8abf5_4 : decode cJ5_length_8abf5 4 = .ok (.ireturn, 1) := by decide +kernel
set_option maxRecDepth 20000 in
theorem ggJ5_ensureCapacityInternal_d00df_J5_newCapacity_0f7a4 : GoodIn wsJ5_ensureCapacityInternal_d00df wsJ5_newCapacity_0f7a4 := goodIn_r _ [8, 1, 2, 9, 10, 11, 12, 13, 14, 15, 16, 17, 18, 19, 20, 21, 40, 41, 42, 43] (by decide +kernel) (by decide +kernel)
set_option maxRecDepth 20000 in
theorem gJ5_ensureCapacityInternal_d00df_J5_newCapacity_0f7a4_u104J4 : GoodIn wsJ5_ensureCapacityInternal_d00df (va_wsU RJ5 104 RJ4 "java/lang/AbstractStringBuilder" ⟨"java/lang/AbstractStringBuilder", "newCapacity", "(I)I"⟩ yJ5_newCapacity_0f7a4 wsJ5_newCapacity_0f7a4) := goodIn_app (goodIn_of _ (by decide +kernel)) ggJ5_ensureCapacityInternal_d00df_J5_newCapacity_0f7a4
set_option maxRecDepth 20000 in
theorem ggJ5_ensureCapacityInternal_d00df_J7_copyOf_9075b : GoodIn wsJ5_ensureCapacityInternal_d00df wsJ7_copyOf_9075b := goodIn_r _ [25, 26, 27, 28, 29, 30, 31, 32, 33, 34, 16, 35, 36, 37, 38, 39] (by decide +kernel) (by decide +kernel)
set_option maxRecDepth 20000 in
theorem gJ5_ensureCapacityInternal_d00df_J7_copyOf_9075b : GoodIn wsJ5_ensureCapacityInternal_d00df (va_wsS RJ5 108 yJ7_copyOf_9075b wsJ7_copyOf_9075b) := goodIn_app (goodIn_of _ (by decide +kernel)) ggJ5_ensureCapacityInternal_d00df_J7_copyOf_9075b
theorem dJ5_ensureCapacityInternal_d00df_0 : decode cJ5_ensureCapacityInternal_d00df 0 = .ok (.aload_n 0, 1) := by decide +kernel
theorem dJ5_ensureCapacityInternal_d00df_1 : decode cJ5_ensureCapacityInternal_d00df 1 = .ok (.getfield 15, 3) := by decide +kernel
theorem dJ5_ensureCapacityInternal_d00df_4 : decode cJ5_ensureCapacityInternal_d00df 4 = .ok (.arraylength, 1) := by decide +kernel
theorem dJ5_ensureCapacityInternal_d00df_5 : decode cJ5_ensureCapacityInternal_d00df 5 = .ok (.aload_n 0, 1) := by decide +kernel
theorem dJ5_ensureCapacityInternal_d00df_6 : decode cJ5_ensureCapacityInternal_d00df 6 = .ok (.getfield 22, 3) := by decide +kernel
theorem dJ5_ensureCapacityInternal_d00df_9 : decode cJ5_ensureCapacityInternal_d00df 9 = .ok (.ishr, 1) := by decide +kernel
theorem dJ5_ensureCapacityInternal_d00df_10 : decode cJ5_ensureCapacityInternal_d00df 10 = .ok (.istore_n 2, 1) := by decide +kernel
theorem dJ5_ensureCapacityInternal_d00df_11 : decode cJ5_ensureCapacityInternal_d00df 11 = .ok (.iload_n 1, 1) := by decide +kernel
theorem dJ5_ensureCapacityInternal_d00df_12 : decode cJ5_ensureCapacityInternal_d00df 12 = .ok (.iload_n 2, 1) := by decide +kernel
theorem dJ5_ensureCapacityInternal_d00df_13 : decode cJ5_ensureCapacityInternal_d00df 13 = .ok (.isub, 1) := by decide +kernel
theorem dJ5_ensureCapacityInternal_d00df_14 : decode cJ5_ensureCapacityInternal_d00df 14 = .ok (.ifCond .le 24, 3) := by decide +kernel
theorem dJ5_ensureCapacityInternal_d00df_17 : decode cJ5_ensureCapacityInternal_d00df 17 = .ok (.aload_n 0, 1) := by decide +kernel
theorem dJ5_ensureCapacityInternal_d00df_18 : decode cJ5_ensureCapacityInternal_d00df 18 = .ok (.aload_n 0, 1) := by decide +kernel
theorem dJ5_ensureCapacityInternal_d00df_19 : decode cJ5_ensureCapacityInternal_d00df 19 = .ok (.getfield 15, 3) := by decide +kernel
theorem dJ5_ensureCapacityInternal_d00df_22 : decode cJ5_ensureCapacityInternal_d00df 22 = .ok (.aload_n 0, 1) := by decide +kernel
theorem dJ5_ensureCapacityInternal_d00df_23 : decode cJ5_ensureCapacityInternal_d00df 23 = .ok (.iload_n 1, 1) := by decide +kernel
theorem dJ5_ensureCapacityInternal_d00df_24 : decode cJ5_ensureCapacityInternal_d00df 24 = .ok (.invokevirtual 104, 3) := by decide +kernel
theorem dJ5_ensureCapacityInternal_d00df_27 : decode cJ5_ensureCapacityInternal_d00df 27 = .ok (.aload_n 0, 1) := by decide +kernel
theorem dJ5_ensureCapacityInternal_d00df_28 : decode cJ5_ensureCapacityInternal_d00df 28 = .ok (.getfield 22, 3) := by decide +kernel
theorem dJ5_ensureCapacityInternal_d00df_31 : decode cJ5_ensureCapacityInternal_d00df 31 = .ok (.ishl, 1) := by decide +kernel
theorem dJ5_ensureCapacityInternal_d00df_32 : decode cJ5_ensureCapacityInternal_d00df 32 = .ok (.invokestatic 108, 3) := by decide +kernel
theorem dJ5_ensureCapacityInternal_d00df_35 : decode cJ5_ensureCapacityInternal_d00df 35 = .ok (.putfield 15, 3) := by decide +kernel
theorem dJ5_ensureCapacityInternal_d00df_38 : decode cJ5_ensureCapacityInternal_d00df 38 = .ok (.return_, 1) := by decide +kernel
set_option maxRecDepth 20000 in
theorem ggJ5_newCapacity_0f7a4_J8_newLength_cabcc : GoodIn wsJ5_newCapacity_0f7a4 wsJ8_newLength_cabcc := goodIn_r _ [7, 8, 9, 10, 11, 12, 13, 14, 6, 15] (by decide +kernel) (by decide +kernel)
set_option maxRecDepth 20000 in
theorem gJ5_newCapacity_0f7a4_J8_newLength_cabcc : GoodIn wsJ5_newCapacity_0f7a4 (va_wsS RJ5 114 yJ8_newLength_cabcc wsJ8_newLength_cabcc) := goodIn_app (goodIn_of _ (by decide +kernel)) ggJ5_newCapacity_0f7a4_J8_newLength_cabcc
theorem dJ5_newCapacity_0f7a4_0 : decode cJ5_newCapacity_0f7a4 0 = .ok (.aload_n 0, 1) := by decide +kernel
theorem dJ5_newCapacity_0f7a4_1 : decode cJ5_newCapacity_0f7a4 1 = .ok (.getfield 15, 3) := by decide +kernel
theorem dJ5_newCapacity_0f7a4_4 : decode cJ5_newCapacity_0f7a4 4 = .ok (.arraylength, 1) := by decide +kernel
theorem dJ5_newCapacity_0f7a4_5 : decode cJ5_newCapacity_0f7a4 5 = .ok (.istore_n 2, 1) := by decide +kernel
theorem dJ5_newCapacity_0f7a4_6 : decode cJ5_newCapacity_0f7a4 6 = .ok (.iload_n 1, 1) := by decide +kernel
theorem dJ5_newCapacity_0f7a4_7 : decode cJ5_newCapacity_0f7a4 7 = .ok (.aload_n 0, 1) := by decide +kernel
theorem dJ5_newCapacity_0f7a4_8 : decode cJ5_newCapacity_0f7a4 8 = .ok (.getfield 22, 3) := by decide +kernel
theorem dJ5_newCapacity_0f7a4_11 : decode cJ5_newCapacity_0f7a4 11 = .ok (.ishl, 1) := by decide +kernel
theorem dJ5_newCapacity_0f7a4_12 : decode cJ5_newCapacity_0f7a4 12 = .ok (.istore_n 3, 1) := by decide +kernel
theorem dJ5_newCapacity_0f7a4_13 : decode cJ5_newCapacity_0f7a4 13 = .ok (.iload_n 3, 1) := by decide +kernel
theorem dJ5_newCapacity_0f7a4_14 : decode cJ5_newCapacity_0f7a4 14 = .ok (.iload_n 2, 1) := by decide +kernel
theorem dJ5_newCapacity_0f7a4_15 : decode cJ5_newCapacity_0f7a4 15 = .ok (.isub, 1) := by decide +kernel
theorem dJ5_newCapacity_0f7a4_16 : decode cJ5_newCapacity_0f7a4 16 = .ok (.istore 4, 2) := by decide +kernel
theorem dJ5_newCapacity_0f7a4_18 : decode cJ5_newCapacity_0f7a4 18 = .ok (.iload_n 2, 1) := by decide +kernel
theorem dJ5_newCapacity_0f7a4_19 : decode cJ5_newCapacity_0f7a4 19 = .ok (.iload 4, 2) := by decide +kernel
theorem dJ5_newCapacity_0f7a4_21 : decode cJ5_newCapacity_0f7a4 21 = .ok (.iload_n 2, 1) := by decide +kernel
theorem dJ5_newCapacity_0f7a4_22 : decode cJ5_newCapacity_0f7a4 22 = .ok (.iconst 2, 1) := by decide +kernel
theorem dJ5_newCapacity_0f7a4_23 : decode cJ5_newCapacity_0f7a4 23 = .ok (.aload_n 0, 1) := by decide +kernel
theorem dJ5_newCapacity_0f7a4_24 : decode cJ5_newCapacity_0f7a4 24 = .ok (.getfield 22, 3) := by decide +kernel
theorem dJ5_newCapacity_0f7a4_27 : decode cJ5_newCapacity_0f7a4 27 = .ok (.ishl, 1) := by decide +kernel
theorem dJ5_newCapacity_0f7a4_28 : decode cJ5_newCapacity_0f7a4 28 = .ok (.iadd, 1) := by decide +kernel
theorem dJ5_newCapacity_0f7a4_29 : decode cJ5_newCapacity_0f7a4 29 = .ok (.invokestatic 114, 3) := by decide +kernel
theorem dJ5_newCapacity_0f7a4_32 : decode cJ5_newCapacity_0f7a4 32 = .ok (.istore 5, 2) := by decide +kernel
theorem dJ5_newCapacity_0f7a4_34 : decode cJ5_newCapacity_0f7a4 34 = .ok (.iload 5, 2) := by decide +kernel
theorem dJ5_newCapacity_0f7a4_36 : decode cJ5_newCapacity_0f7a4 36 = .ok (.ldc 39, 2) := by decide +kernel
theorem dJ5_newCapacity_0f7a4_38 : decode cJ5_newCapacity_0f7a4 38 = .ok (.if_icmp .ne 13, 3) := by decide +kernel
theorem dJ5_newCapacity_0f7a4_41 : decode cJ5_newCapacity_0f7a4 41 = .ok (.new 120, 3) := by decide +kernel
theorem dJ5_newCapacity_0f7a4_44 : decode cJ5_newCapacity_0f7a4 44 = .ok (.dup, 1) := by decide +kernel
theorem dJ5_newCapacity_0f7a4_45 : decode cJ5_newCapacity_0f7a4 45 = .ok (.ldc 122, 2) := by decide +kernel
theorem dJ5_newCapacity_0f7a4_47 : decode cJ5_newCapacity_0f7a4 47 = .ok (.invokespecial 124, 3) := by decide +kernel
theorem dJ5_newCapacity_0f7a4_50 : decode cJ5_newCapacity_0f7a4 50 = .ok (.athrow, 1) := by decide +kernel
theorem dJ5_newCapacity_0f7a4_51 : decode cJ5_newCapacity_0f7a4 51 = .ok (.iload 5, 2) := by decide +kernel
theorem dJ5_newCapacity_0f7a4_53 : decode cJ5_newCapacity_0f7a4 53 = .ok (.aload_n 0, 1) := by decide +kernel
theorem dJ5_newCapacity_0f7a4_54 : decode cJ5_newCapacity_0f7a4 54 = .ok (.getfield 22, 3) := by decide +kernel
theorem dJ5_newCapacity_0f7a4_57 : decode cJ5_newCapacity_0f7a4 57 = .ok (.ishr, 1) := by decide +kernel
theorem dJ5_newCapacity_0f7a4_58 : decode cJ5_newCapacity_0f7a4 58 = .ok (.ireturn, 1) := by decide +kernel
set_option maxRecDepth 20000 in
theorem ggJ5_inflate_da8c8_J5_isLatin1_aae02 : GoodIn wsJ5_inflate_da8c8 wsJ5_isLatin1_aae02 := goodIn_r _ [9, 10, 3, 48, 49, 50, 51] (by decide +kernel) (by decide +kernel)
set_option maxRecDepth 20000 in
theorem gJ5_inflate_da8c8_J5_isLatin1_aae02_u83J4 : GoodIn wsJ5_inflate_da8c8 (va_wsU RJ5 83 RJ4 "java/lang/AbstractStringBuilder" ⟨"java/lang/AbstractStringBuilder", "isLatin1", "()Z"⟩ yJ5_isLatin1_aae02 wsJ5_isLatin1_aae02) := goodIn_app (goodIn_of _ (by decide +kernel)) ggJ5_inflate_da8c8_J5_isLatin1_aae02
set_option maxRecDepth 20000 in
theorem ggJ5_inflate_da8c8_J2_newBytesFor_77867 : GoodIn wsJ5_inflate_da8c8 wsJ2_newBytesFor_77867 := goodIn_r _ [14, 15, 16, 17, 13, 18, 19] (by decide +kernel) (by decide +kernel)
set_option maxRecDepth 20000 in
theorem gJ5_inflate_da8c8_J2_newBytesFor_77867 : GoodIn wsJ5_inflate_da8c8 (va_wsS RJ5 26 yJ2_newBytesFor_77867 wsJ2_newBytesFor_77867) := goodIn_app (goodIn_of _ (by decide +kernel)) ggJ5_inflate_da8c8_J2_newBytesFor_77867
set_option maxRecDepth 20000 in
theorem ggJ5_inflate_da8c8_J1_inflate_0e8fd : GoodIn wsJ5_inflate_da8c8 wsJ1_inflate_0e8fd := goodIn_r _ [23, 24, 25, 13, 26, 27, 28, 29, 30, 31, 32, 33, 34, 35, 36, 37, 38, 39, 40, 41, 42, 43, 44, 45, 46, 47] (by decide +kernel) (by decide +kernel)
set_option maxRecDepth 20000 in
theorem gJ5_inflate_da8c8_J1_inflate_0e8fd : GoodIn wsJ5_inflate_da8c8 (va_wsS RJ5 125 yJ1_inflate_0e8fd wsJ1_inflate_0e8fd) := goodIn_app (goodIn_of _ (by decide +kernel)) ggJ5_inflate_da8c8_J1_inflate_0e8fd
theorem dJ5_inflate_da8c8_0 : decode cJ5_inflate_da8c8 0 = .ok (.aload_n 0, 1) := by decide +kernel
theorem dJ5_inflate_da8c8_1 : decode cJ5_inflate_da8c8 1 = .ok (.invokevirtual 83, 3) := by decide +kernel
theorem dJ5_inflate_da8c8_4 : decode cJ5_inflate_da8c8 4 = .ok (.ifCond .ne 4, 3) := by decide +kernel
theorem dJ5_inflate_da8c8_7 : decode cJ5_inflate_da8c8 7 = .ok (.return_, 1) := by decide +kernel
theorem dJ5_inflate_da8c8_8 : decode cJ5_inflate_da8c8 8 = .ok (.aload_n 0, 1) := by decide +kernel
theorem dJ5_inflate_da8c8_9 : decode cJ5_inflate_da8c8 9 = .ok (.getfield 15, 3) := by decide +kernel
theorem dJ5_inflate_da8c8_12 : decode cJ5_inflate_da8c8 12 = .ok (.arraylength, 1) := by decide +kernel
theorem dJ5_inflate_da8c8_13 : decode cJ5_inflate_da8c8 13 = .ok (.invokestatic 26, 3) := by decide +kernel
theorem dJ5_inflate_da8c8_16 : decode cJ5_inflate_da8c8 16 = .ok (.astore_n 1, 1) := by decide +kernel
theorem dJ5_inflate_da8c8_17 : decode cJ5_inflate_da8c8 17 = .ok (.aload_n 0, 1) := by decide +kernel
theorem dJ5_inflate_da8c8_18 : decode cJ5_inflate_da8c8 18 = .ok (.getfield 15, 3) := by decide +kernel
theorem dJ5_inflate_da8c8_21 : decode cJ5_inflate_da8c8 21 = .ok (.iconst 0, 1) := by decide +kernel
theorem dJ5_inflate_da8c8_22 : decode cJ5_inflate_da8c8 22 = .ok (.aload_n 1, 1) := by decide +kernel
theorem dJ5_inflate_da8c8_23 : decode cJ5_inflate_da8c8 23 = .ok (.iconst 0, 1) := by decide +kernel
theorem dJ5_inflate_da8c8_24 : decode cJ5_inflate_da8c8 24 = .ok (.aload_n 0, 1) := by decide +kernel
theorem dJ5_inflate_da8c8_25 : decode cJ5_inflate_da8c8 25 = .ok (.getfield 79, 3) := by decide +kernel
theorem dJ5_inflate_da8c8_28 : decode cJ5_inflate_da8c8 28 = .ok (.invokestatic 125, 3) := by decide +kernel
theorem dJ5_inflate_da8c8_31 : decode cJ5_inflate_da8c8 31 = .ok (.aload_n 0, 1) := by decide +kernel
theorem dJ5_inflate_da8c8_32 : decode cJ5_inflate_da8c8 32 = .ok (.aload_n 1, 1) := by decide +kernel
theorem dJ5_inflate_da8c8_33 : decode cJ5_inflate_da8c8 33 = .ok (.putfield 15, 3) := by decide +kernel
theorem dJ5_inflate_da8c8_36 : decode cJ5_inflate_da8c8 36 = .ok (.aload_n 0, 1) := by decide +kernel
theorem dJ5_inflate_da8c8_37 : decode cJ5_inflate_da8c8 37 = .ok (.iconst 1, 1) := by decide +kernel
theorem dJ5_inflate_da8c8_38 : decode cJ5_inflate_da8c8 38 = .ok (.putfield 22, 3) := by decide +kernel
theorem dJ5_inflate_da8c8_41 : decode cJ5_inflate_da8c8 41 = .ok (.return_, 1) := by decide +kernel
set_option maxRecDepth 20000 in
theorem ggJ5_setLength_d00df_J5_ensureCapacityInternal_d00df : GoodIn wsJ5_setLength_d00df wsJ5_ensureCapacityInternal_d00df := goodIn_r _ [9, 2, 10, 11, 12, 13, 14, 8, 15, 16, 17, 18, 19, 20, 21, 22, 23, 24, 25, 26, 27, 28, 29, 30, 31, 32, 33, 34, 35, 36, 37, 38, 39, 40, 41, 42, 43, 44, 45, 46, 68, 69, 70, 71] (by decide +kernel) (by decide +kernel)
set_option maxRecDepth 20000 in
theorem gJ5_setLength_d00df_J5_ensureCapacityInternal_d00df_u100J4 : GoodIn wsJ5_setLength_d00df (va_wsU RJ5 100 RJ4 "java/lang/AbstractStringBuilder" ⟨"java/lang/AbstractStringBuilder", "ensureCapacityInternal", "(I)V"⟩ yJ5_ensureCapacityInternal_d00df wsJ5_ensureCapacityInternal_d00df) := goodIn_app (goodIn_of _ (by decide +kernel)) ggJ5_setLength_d00df_J5_ensureCapacityInternal_d00df
set_option maxRecDepth 20000 in
theorem ggJ5_setLength_d00df_J5_isLatin1_aae02 : GoodIn wsJ5_setLength_d00df wsJ5_isLatin1_aae02 := goodIn_r _ [51, 52, 10, 68, 69, 70, 71] (by decide +kernel) (by decide +kernel)
set_option maxRecDepth 20000 in
theorem gJ5_setLength_d00df_J5_isLatin1_aae02_u83J4 : GoodIn wsJ5_setLength_d00df (va_wsU RJ5 83 RJ4 "java/lang/AbstractStringBuilder" ⟨"java/lang/AbstractStringBuilder", "isLatin1", "()Z"⟩ yJ5_isLatin1_aae02 wsJ5_isLatin1_aae02) := goodIn_app (goodIn_of _ (by decide +kernel)) ggJ5_setLength_d00df_J5_isLatin1_aae02
set_option maxRecDepth 20000 in
theorem ggJ5_setLength_d00df_J1_fillNull_b72d1 : GoodIn wsJ5_setLength_d00df wsJ1_fillNull_b72d1 := goodIn_r _ [56, 57, 58, 31, 59, 60, 61, 62] (by decide +kernel) (by decide +kernel)
set_option maxRecDepth 20000 in
theorem gJ5_setLength_d00df_J1_fillNull_b72d1 : GoodIn wsJ5_setLength_d00df (va_wsS RJ5 133 yJ1_fillNull_b72d1 wsJ1_fillNull_b72d1) := goodIn_app (goodIn_of _ (by decide +kernel)) ggJ5_setLength_d00df_J1_fillNull_b72d1
set_option maxRecDepth 20000 in
theorem ggJ5_setLength_d00df_J2_fillNull_b72d1 : GoodIn wsJ5_setLength_d00df wsJ2_fillNull_b72d1 := goodIn_r _ [66, 67, 58, 31, 59, 60, 61, 62] (by decide +kernel) (by decide +kernel)
set_option maxRecDepth 20000 in
theorem gJ5_setLength_d00df_J2_fillNull_b72d1 : GoodIn wsJ5_setLength_d00df (va_wsS RJ5 137 yJ2_fillNull_b72d1 wsJ2_fillNull_b72d1) := goodIn_app (goodIn_of _ (by decide +kernel)) ggJ5_setLength_d00df_J2_fillNull_b72d1
theorem dJ5_setLength_d00df_0 : decode cJ5_setLength_d00df 0 = .ok (.iload_n 1, 1) := by decide +kernel
theorem dJ5_setLength_d00df_1 : decode cJ5_setLength_d00df 1 = .ok (.ifCond .ge 12, 3) := by decide +kernel
theorem dJ5_setLength_d00df_4 : decode cJ5_setLength_d00df 4 = .ok (.new 129, 3) := by decide +kernel
theorem dJ5_setLength_d00df_7 : decode cJ5_setLength_d00df 7 = .ok (.dup, 1) := by decide +kernel
theorem dJ5_setLength_d00df_8 : decode cJ5_setLength_d00df 8 = .ok (.iload_n 1, 1) := by decide +kernel
theorem dJ5_setLength_d00df_9 : decode cJ5_setLength_d00df 9 = .ok (.invokespecial 131, 3) := by decide +kernel
theorem dJ5_setLength_d00df_12 : decode cJ5_setLength_d00df 12 = .ok (.athrow, 1) := by decide +kernel
theorem dJ5_setLength_d00df_13 : decode cJ5_setLength_d00df 13 = .ok (.aload_n 0, 1) := by decide +kernel
theorem dJ5_setLength_d00df_14 : decode cJ5_setLength_d00df 14 = .ok (.iload_n 1, 1) := by decide +kernel
theorem dJ5_setLength_d00df_15 : decode cJ5_setLength_d00df 15 = .ok (.invokevirtual 100, 3) := by decide +kernel
theorem dJ5_setLength_d00df_18 : decode cJ5_setLength_d00df 18 = .ok (.aload_n 0, 1) := by decide +kernel
theorem dJ5_setLength_d00df_19 : decode cJ5_setLength_d00df 19 = .ok (.getfield 79, 3) := by decide +kernel
theorem dJ5_setLength_d00df_22 : decode cJ5_setLength_d00df 22 = .ok (.iload_n 1, 1) := by decide +kernel
theorem dJ5_setLength_d00df_23 : decode cJ5_setLength_d00df 23 = .ok (.if_icmp .ge 40, 3) := by decide +kernel
theorem dJ5_setLength_d00df_26 : decode cJ5_setLength_d00df 26 = .ok (.aload_n 0, 1) := by decide +kernel
theorem dJ5_setLength_d00df_27 : decode cJ5_setLength_d00df 27 = .ok (.invokevirtual 83, 3) := by decide +kernel
theorem dJ5_setLength_d00df_30 : decode cJ5_setLength_d00df 30 = .ok (.ifCond .eq 18, 3) := by decide +kernel
