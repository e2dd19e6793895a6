theorem dX7_init_0 : decode cX7_init 0 = .ok (.aload_n 0, 1) := by decide +kernel
theorem dX7_init_1 : decode cX7_init 1 = .ok (.invokespecial 1, 3) := by decide +kernel
theorem dX7_init_4 : decode cX7_init 4 = .ok (.aload_n 0, 1) := by decide +kernel
theorem dX7_init_5 : decode cX7_init 5 = .ok (.bipush 50, 2) := by decide +kernel
theorem dX7_init_7 : decode cX7_init 7 = .ok (.putfield 7, 3) := by decide +kernel
theorem dX7_init_10 : decode cX7_init 10 = .ok (.aload_n 0, 1) := by decide +kernel
theorem dX7_init_11 : decode cX7_init 11 = .ok (.bipush 60, 2) := by decide +kernel
theorem dX7_init_13 : decode cX7_init 13 = .ok (.putfield 13, 3) := by decide +kernel
theorem dX7_init_16 : decode cX7_init 16 = .ok (.aload_n 0, 1) := by decide +kernel
theorem dX7_init_17 : decode cX7_init 17 = .ok (.bipush 10, 2) := by decide +kernel
theorem dX7_init_19 : decode cX7_init 19 = .ok (.putfield 16, 3) := by decide +kernel
theorem dX7_init_22 : decode cX7_init 22 = .ok (.aload_n 0, 1) := by decide +kernel
theorem dX7_init_23 : decode cX7_init 23 = .ok (.iconst 5, 1) := by decide +kernel
theorem dX7_init_24 : decode cX7_init 24 = .ok (.putfield 19, 3) := by decide +kernel
theorem dX7_init_27 : decode cX7_init 27 = .ok (.aload_n 0, 1) := by decide +kernel
theorem dX7_init_28 : decode cX7_init 28 = .ok (.bipush 15, 2) := by decide +kernel
theorem dX7_init_30 : decode cX7_init 30 = .ok (.putfield 22, 3) := by decide +kernel
theorem dX7_init_33 : decode cX7_init 33 = .ok (.aload_n 0, 1) := by decide +kernel
theorem dX7_init_34 : decode cX7_init 34 = .ok (.iconst 2, 1) := by decide +kernel
theorem dX7_init_35 : decode cX7_init 35 = .ok (.putfield 25, 3) := by decide +kernel
theorem dX7_init_38 : decode cX7_init 38 = .ok (.aload_n 0, 1) := by decide +kernel
theorem dX7_init_39 : decode cX7_init 39 = .ok (.iconst 3, 1) := by decide +kernel
theorem dX7_init_40 : decode cX7_init 40 = .ok (.putfield 28, 3) := by decide +kernel
theorem dX7_init_43 : decode cX7_init 43 = .ok (.aload_n 0, 1) := by decide +kernel
theorem dX7_init_44 : decode cX7_init 44 = .ok (.bipush 30, 2) := by decide +kernel
theorem dX7_init_46 : decode cX7_init 46 = .ok (.putfield 31, 3) := by decide +kernel
theorem dX7_init_49 : decode cX7_init 49 = .ok (.aload_n 0, 1) := by decide +kernel
theorem dX7_init_50 : decode cX7_init 50 = .ok (.sipush 200, 3) := by decide +kernel
theorem dX7_init_53 : decode cX7_init 53 = .ok (.putfield 34, 3) := by decide +kernel
theorem dX7_init_56 : decode cX7_init 56 = .ok (.aload_n 0, 1) := by decide +kernel
theorem dX7_init_57 : decode cX7_init 57 = .ok (.bipush 20, 2) := by decide +kernel
theorem dX7_init_59 : decode cX7_init 59 = .ok (.putfield 37, 3) := by decide +kernel
theorem dX7_init_62 : decode cX7_init 62 = .ok (.aload_n 0, 1) := by decide +kernel
theorem dX7_init_63 : decode cX7_init 63 = .ok (.bipush 10, 2) := by decide +kernel
theorem dX7_init_65 : decode cX7_init 65 = .ok (.putfield 40, 3) := by decide +kernel
theorem dX7_init_68 : decode cX7_init 68 = .ok (.aload_n 0, 1) := by decide +kernel
theorem dX7_init_69 : decode cX7_init 69 = .ok (.bipush 100, 2) := by decide +kernel
theorem dX7_init_71 : decode cX7_init 71 = .ok (.newarray .int, 2) := by decide +kernel
theorem dX7_init_73 : decode cX7_init 73 = .ok (.putfield 43, 3) := by decide +kernel
theorem dX7_init_76 : decode cX7_init 76 = .ok (.aload_n 0, 1) := by decide +kernel
theorem dX7_init_77 : decode cX7_init 77 = .ok (.bipush 100, 2) := by decide +kernel
theorem dX7_init_79 : decode cX7_init 79 = .ok (.newarray .int, 2) := by decide +kernel
theorem dX7_init_81 : decode cX7_init 81 = .ok (.putfield 47, 3) := by decide +kernel
theorem dX7_init_84 : decode cX7_init 84 = .ok (.aload_n 0, 1) := by decide +kernel
theorem dX7_init_85 : decode cX7_init 85 = .ok (.bipush 100, 2) := by decide +kernel
theorem dX7_init_87 : decode cX7_init 87 = .ok (.newarray .int, 2) := by decide +kernel
theorem dX7_init_89 : decode cX7_init 89 = .ok (.putfield 50, 3) := by decide +kernel
theorem dX7_init_92 : decode cX7_init 92 = .ok (.aload_n 0, 1) := by decide +kernel
theorem dX7_init_93 : decode cX7_init 93 = .ok (.iconst 3, 1) := by decide +kernel
theorem dX7_init_94 : decode cX7_init 94 = .ok (.newarray .int, 2) := by decide +kernel
theorem dX7_init_96 : decode cX7_init 96 = .ok (.putfield 53, 3) := by decide +kernel
theorem dX7_init_99 : decode cX7_init 99 = .ok (.aload_n 0, 1) := by decide +kernel
theorem dX7_init_100 : decode cX7_init 100 = .ok (.sipush 512, 3) := by decide +kernel
theorem dX7_init_103 : decode cX7_init 103 = .ok (.newarray .long, 2) := by decide +kernel
theorem dX7_init_105 : decode cX7_init 105 = .ok (.putfield 56, 3) := by decide +kernel
theorem dX7_init_108 : decode cX7_init 108 = .ok (.aload_n 0, 1) := by decide +kernel
theorem dX7_init_109 : decode cX7_init 109 = .ok (.sipush 512, 3) := by decide +kernel
theorem dX7_init_112 : decode cX7_init 112 = .ok (.newarray .long, 2) := by decide +kernel
theorem dX7_init_114 : decode cX7_init 114 = .ok (.putfield 60, 3) := by decide +kernel
theorem dX7_init_117 : decode cX7_init 117 = .ok (.return_, 1) := by decide +kernel
theorem dX7_thrown_0 : decode cX7_thrown 0 = .ok (.aload_n 0, 1) := by decide +kernel
theorem dX7_thrown_1 : decode cX7_thrown 1 = .ok (.getfield 63, 3) := by decide +kernel
theorem dX7_thrown_4 : decode cX7_thrown 4 = .ok (.ireturn, 1) := by decide +kernel
theorem dX7_asks_0 : decode cX7_asks 0 = .ok (.aload_n 0, 1) := by decide +kernel
theorem dX7_asks_1 : decode cX7_asks 1 = .ok (.iload_n 1, 1) := by decide +kernel
theorem dX7_asks_2 : decode cX7_asks 2 = .ok (.ifCond .eq 7, 3) := by decide +kernel
theorem dX7_asks_5 : decode cX7_asks 5 = .ok (.iconst 0, 1) := by decide +kernel
theorem dX7_asks_6 : decode cX7_asks 6 = .ok (.goto 4, 3) := by decide +kernel
theorem dX7_asks_9 : decode cX7_asks 9 = .ok (.iconst 1, 1) := by decide +kernel
theorem dX7_asks_10 : decode cX7_asks 10 = .ok (.putfield 63, 3) := by decide +kernel
theorem dX7_asks_13 : decode cX7_asks 13 = .ok (.iload_n 1, 1) := by decide +kernel
theorem dX7_asks_14 : decode cX7_asks 14 = .ok (.ireturn, 1) := by decide +kernel
theorem dX7_in_0 : decode cX7_in 0 = .ok (.iload_n 0, 1) := by decide +kernel
theorem dX7_in_1 : decode cX7_in 1 = .ok (.iload_n 1, 1) := by decide +kernel
theorem dX7_in_2 : decode cX7_in 2 = .ok (.if_icmp .lt 12, 3) := by decide +kernel
theorem dX7_in_5 : decode cX7_in 5 = .ok (.iload_n 0, 1) := by decide +kernel
theorem dX7_in_6 : decode cX7_in 6 = .ok (.iload_n 2, 1) := by decide +kernel
theorem dX7_in_7 : decode cX7_in 7 = .ok (.if_icmp .gt 7, 3) := by decide +kernel
theorem dX7_in_10 : decode cX7_in 10 = .ok (.iconst 1, 1) := by decide +kernel
theorem dX7_in_11 : decode cX7_in 11 = .ok (.goto 4, 3) := by decide +kernel
theorem dX7_in_14 : decode cX7_in 14 = .ok (.iconst 0, 1) := by decide +kernel
theorem dX7_in_15 : decode cX7_in 15 = .ok (.ireturn, 1) := by decide +kernel
set_option maxRecDepth 20000 in
theorem ggX7_signal_X7_in : GoodIn wsX7_signal wsX7_in := goodIn_r _ [5] (by decide +kernel) (by decide +kernel)
set_option maxRecDepth 20000 in
theorem gX7_signal_X7_in : GoodIn wsX7_signal (va_wsS RX7 66 yX7_in wsX7_in) := goodIn_app (goodIn_of _ (by decide +kernel)) ggX7_signal_X7_in
set_option maxRecDepth 20000 in
theorem ggX7_signal_X7_asks : GoodIn wsX7_signal wsX7_asks := goodIn_r _ [9, 10, 11, 12, 13, 14, 15, 16, 17, 18, 19, 20, 21, 22, 23, 24, 25, 26, 27, 28, 29, 30, 31, 32, 33, 34, 35, 36, 37, 38, 39, 40, 41, 42, 43, 44, 45] (by decide +kernel) (by decide +kernel)
set_option maxRecDepth 20000 in
theorem gX7_signal_X7_asks : GoodIn wsX7_signal (wsV RX7 70 RX7 yX7_asks wsX7_asks) := goodIn_app (goodIn_of _ (by decide +kernel)) ggX7_signal_X7_asks
theorem dX7_signal_0 : decode cX7_signal 0 = .ok (.aload_n 0, 1) := by decide +kernel
theorem dX7_signal_1 : decode cX7_signal 1 = .ok (.iload_n 1, 1) := by decide +kernel
theorem dX7_signal_2 : decode cX7_signal 2 = .ok (.iconst 0, 1) := by decide +kernel
theorem dX7_signal_3 : decode cX7_signal 3 = .ok (.iconst 5, 1) := by decide +kernel
theorem dX7_signal_4 : decode cX7_signal 4 = .ok (.invokestatic 66, 3) := by decide +kernel
theorem dX7_signal_7 : decode cX7_signal 7 = .ok (.invokevirtual 70, 3) := by decide +kernel
theorem dX7_signal_10 : decode cX7_signal 10 = .ok (.ifCond .ne 5, 3) := by decide +kernel
theorem dX7_signal_13 : decode cX7_signal 13 = .ok (.iconst 0, 1) := by decide +kernel
theorem dX7_signal_14 : decode cX7_signal 14 = .ok (.ireturn, 1) := by decide +kernel
theorem dX7_signal_15 : decode cX7_signal 15 = .ok (.aload_n 0, 1) := by decide +kernel
theorem dX7_signal_16 : decode cX7_signal 16 = .ok (.getfield 74, 3) := by decide +kernel
theorem dX7_signal_19 : decode cX7_signal 19 = .ok (.iload_n 1, 1) := by decide +kernel
theorem dX7_signal_20 : decode cX7_signal 20 = .ok (.ishr, 1) := by decide +kernel
theorem dX7_signal_21 : decode cX7_signal 21 = .ok (.iconst 1, 1) := by decide +kernel
theorem dX7_signal_22 : decode cX7_signal 22 = .ok (.iand, 1) := by decide +kernel
theorem dX7_signal_23 : decode cX7_signal 23 = .ok (.iconst 1, 1) := by decide +kernel
theorem dX7_signal_24 : decode cX7_signal 24 = .ok (.if_icmp .ne 7, 3) := by decide +kernel
theorem dX7_signal_27 : decode cX7_signal 27 = .ok (.iconst 1, 1) := by decide +kernel
theorem dX7_signal_28 : decode cX7_signal 28 = .ok (.goto 4, 3) := by decide +kernel
theorem dX7_signal_31 : decode cX7_signal 31 = .ok (.iconst 0, 1) := by decide +kernel
theorem dX7_signal_32 : decode cX7_signal 32 = .ok (.istore_n 3, 1) := by decide +kernel
theorem dX7_signal_33 : decode cX7_signal 33 = .ok (.aload_n 0, 1) := by decide +kernel
theorem dX7_signal_34 : decode cX7_signal 34 = .ok (.dup, 1) := by decide +kernel
theorem dX7_signal_35 : decode cX7_signal 35 = .ok (.getfield 74, 3) := by decide +kernel
theorem dX7_signal_38 : decode cX7_signal 38 = .ok (.iload_n 2, 1) := by decide +kernel
theorem dX7_signal_39 : decode cX7_signal 39 = .ok (.iload_n 3, 1) := by decide +kernel
theorem dX7_signal_40 : decode cX7_signal 40 = .ok (.if_icmp .ne 7, 3) := by decide +kernel
theorem dX7_signal_43 : decode cX7_signal 43 = .ok (.iconst 0, 1) := by decide +kernel
theorem dX7_signal_44 : decode cX7_signal 44 = .ok (.goto 17, 3) := by decide +kernel
theorem dX7_signal_47 : decode cX7_signal 47 = .ok (.iload_n 2, 1) := by decide +kernel
theorem dX7_signal_48 : decode cX7_signal 48 = .ok (.ifCond .eq 9, 3) := by decide +kernel
theorem dX7_signal_51 : decode cX7_signal 51 = .ok (.iconst 1, 1) := by decide +kernel
theorem dX7_signal_52 : decode cX7_signal 52 = .ok (.iload_n 1, 1) := by decide +kernel
theorem dX7_signal_53 : decode cX7_signal 53 = .ok (.ishl, 1) := by decide +kernel
theorem dX7_signal_54 : decode cX7_signal 54 = .ok (.goto 7, 3) := by decide +kernel
theorem dX7_signal_57 : decode cX7_signal 57 = .ok (.iconst 1, 1) := by decide +kernel
theorem dX7_signal_58 : decode cX7_signal 58 = .ok (.iload_n 1, 1) := by decide +kernel
theorem dX7_signal_59 : decode cX7_signal 59 = .ok (.ishl, 1) := by decide +kernel
theorem dX7_signal_60 : decode cX7_signal 60 = .ok (.ineg, 1) := by decide +kernel
theorem dX7_signal_61 : decode cX7_signal 61 = .ok (.iadd, 1) := by decide +kernel
theorem dX7_signal_62 : decode cX7_signal 62 = .ok (.putfield 74, 3) := by decide +kernel
theorem dX7_signal_65 : decode cX7_signal 65 = .ok (.iload_n 3, 1) := by decide +kernel
theorem dX7_signal_66 : decode cX7_signal 66 = .ok (.ireturn, 1) := by decide +kernel
set_option maxRecDepth 20000 in
theorem ggX7_setRate_X7_in : GoodIn wsX7_setRate wsX7_in := goodIn_r _ [5] (by decide +kernel) (by decide +kernel)
set_option maxRecDepth 20000 in
theorem gX7_setRate_X7_in : GoodIn wsX7_setRate (va_wsS RX7 66 yX7_in wsX7_in) := goodIn_app (goodIn_of _ (by decide +kernel)) ggX7_setRate_X7_in
set_option maxRecDepth 20000 in
theorem ggX7_setRate_X7_asks : GoodIn wsX7_setRate wsX7_asks := goodIn_r _ [9, 10, 11, 12, 13, 14, 15, 16, 17, 18, 19, 20, 21, 22, 23, 24, 25, 26, 27, 28, 29, 30, 31, 32, 33, 34, 35, 36, 37, 38, 39, 40, 41, 42, 43, 44, 45] (by decide +kernel) (by decide +kernel)
set_option maxRecDepth 20000 in
theorem gX7_setRate_X7_asks : GoodIn wsX7_setRate (wsV RX7 70 RX7 yX7_asks wsX7_asks) := goodIn_app (goodIn_of _ (by decide +kernel)) ggX7_setRate_X7_asks
theorem dX7_setRate_0 : decode cX7_setRate 0 = .ok (.aload_n 0, 1) := by decide +kernel
theorem dX7_setRate_1 : decode cX7_setRate 1 = .ok (.iload_n 1, 1) := by decide +kernel
theorem dX7_setRate_2 : decode cX7_setRate 2 = .ok (.bipush 20, 2) := by decide +kernel
theorem dX7_setRate_4 : decode cX7_setRate 4 = .ok (.bipush 100, 2) := by decide +kernel
theorem dX7_setRate_6 : decode cX7_setRate 6 = .ok (.invokestatic 66, 3) := by decide +kernel
theorem dX7_setRate_9 : decode cX7_setRate 9 = .ok (.invokevirtual 70, 3) := by decide +kernel
theorem dX7_setRate_12 : decode cX7_setRate 12 = .ok (.ifCond .ne 5, 3) := by decide +kernel
theorem dX7_setRate_15 : decode cX7_setRate 15 = .ok (.iconst 0, 1) := by decide +kernel
theorem dX7_setRate_16 : decode cX7_setRate 16 = .ok (.ireturn, 1) := by decide +kernel
theorem dX7_setRate_17 : decode cX7_setRate 17 = .ok (.aload_n 0, 1) := by decide +kernel
theorem dX7_setRate_18 : decode cX7_setRate 18 = .ok (.getfield 7, 3) := by decide +kernel
theorem dX7_setRate_21 : decode cX7_setRate 21 = .ok (.istore_n 2, 1) := by decide +kernel
theorem dX7_setRate_22 : decode cX7_setRate 22 = .ok (.aload_n 0, 1) := by decide +kernel
theorem dX7_setRate_23 : decode cX7_setRate 23 = .ok (.iload_n 1, 1) := by decide +kernel
theorem dX7_setRate_24 : decode cX7_setRate 24 = .ok (.putfield 7, 3) := by decide +kernel
theorem dX7_setRate_27 : decode cX7_setRate 27 = .ok (.iload_n 2, 1) := by decide +kernel
theorem dX7_setRate_28 : decode cX7_setRate 28 = .ok (.ireturn, 1) := by decide +kernel
theorem dX7_asksSetting_0 : decode cX7_asksSetting 0 = .ok (.aload_n 0, 1) := by decide +kernel
theorem dX7_asksSetting_1 : decode cX7_asksSetting 1 = .ok (.iload_n 1, 1) := by decide +kernel
theorem dX7_asksSetting_2 : decode cX7_asksSetting 2 = .ok (.ifCond .ne 7, 3) := by decide +kernel
theorem dX7_asksSetting_5 : decode cX7_asksSetting 5 = .ok (.iconst 1, 1) := by decide +kernel
theorem dX7_asksSetting_6 : decode cX7_asksSetting 6 = .ok (.goto 15, 3) := by decide +kernel
theorem dX7_asksSetting_9 : decode cX7_asksSetting 9 = .ok (.aload_n 0, 1) := by decide +kernel
theorem dX7_asksSetting_10 : decode cX7_asksSetting 10 = .ok (.getfield 77, 3) := by decide +kernel
theorem dX7_asksSetting_13 : decode cX7_asksSetting 13 = .ok (.ifCond .eq 7, 3) := by decide +kernel
theorem dX7_asksSetting_16 : decode cX7_asksSetting 16 = .ok (.iconst 2, 1) := by decide +kernel
theorem dX7_asksSetting_17 : decode cX7_asksSetting 17 = .ok (.goto 4, 3) := by decide +kernel
theorem dX7_asksSetting_20 : decode cX7_asksSetting 20 = .ok (.iconst 0, 1) := by decide +kernel
theorem dX7_asksSetting_21 : decode cX7_asksSetting 21 = .ok (.putfield 63, 3) := by decide +kernel
theorem dX7_asksSetting_24 : decode cX7_asksSetting 24 = .ok (.aload_n 0, 1) := by decide +kernel
theorem dX7_asksSetting_25 : decode cX7_asksSetting 25 = .ok (.getfield 63, 3) := by decide +kernel
theorem dX7_asksSetting_28 : decode cX7_asksSetting 28 = .ok (.ifCond .ne 7, 3) := by decide +kernel
theorem dX7_asksSetting_31 : decode cX7_asksSetting 31 = .ok (.iconst 1, 1) := by decide +kernel
theorem dX7_asksSetting_32 : decode cX7_asksSetting 32 = .ok (.goto 4, 3) := by decide +kernel
theorem dX7_asksSetting_35 : decode cX7_asksSetting 35 = .ok (.iconst 0, 1) := by decide +kernel
theorem dX7_asksSetting_36 : decode cX7_asksSetting 36 = .ok (.ireturn, 1) := by decide +kernel
set_option maxRecDepth 20000 in
theorem ggX7_setTimes_X7_in : GoodIn wsX7_setTimes wsX7_in := goodIn_r _ [8] (by decide +kernel) (by decide +kernel)
set_option maxRecDepth 20000 in
theorem gX7_setTimes_X7_in : GoodIn wsX7_setTimes (va_wsS RX7 66 yX7_in wsX7_in) := goodIn_app (goodIn_of _ (by decide +kernel)) ggX7_setTimes_X7_in
set_option maxRecDepth 20000 in
theorem ggX7_setTimes_X7_asksSetting : GoodIn wsX7_setTimes wsX7_asksSetting := goodIn_r _ [12, 13, 14, 15, 16, 17, 18, 19, 20, 21, 22, 23, 24, 25, 26, 27, 28, 29, 30, 31, 32, 33, 34, 35, 36, 37, 38, 39, 40, 41, 42, 43, 44, 45, 46, 47, 48, 49] (by decide +kernel) (by decide +kernel)
set_option maxRecDepth 20000 in
theorem gX7_setTimes_X7_asksSetting : GoodIn wsX7_setTimes (wsV RX7 80 RX7 yX7_asksSetting wsX7_asksSetting) := goodIn_app (goodIn_of _ (by decide +kernel)) ggX7_setTimes_X7_asksSetting
theorem dX7_setTimes_0 : decode cX7_setTimes 0 = .ok (.aload_n 0, 1) := by decide +kernel
theorem dX7_setTimes_1 : decode cX7_setTimes 1 = .ok (.iload_n 1, 1) := by decide +kernel
theorem dX7_setTimes_2 : decode cX7_setTimes 2 = .ok (.iconst 1, 1) := by decide +kernel
theorem dX7_setTimes_3 : decode cX7_setTimes 3 = .ok (.sipush 200, 3) := by decide +kernel
theorem dX7_setTimes_6 : decode cX7_setTimes 6 = .ok (.invokestatic 66, 3) := by decide +kernel
theorem dX7_setTimes_9 : decode cX7_setTimes 9 = .ok (.ifCond .eq 38, 3) := by decide +kernel
theorem dX7_setTimes_12 : decode cX7_setTimes 12 = .ok (.iload_n 2, 1) := by decide +kernel
theorem dX7_setTimes_13 : decode cX7_setTimes 13 = .ok (.iconst 1, 1) := by decide +kernel
theorem dX7_setTimes_14 : decode cX7_setTimes 14 = .ok (.bipush 30, 2) := by decide +kernel
theorem dX7_setTimes_16 : decode cX7_setTimes 16 = .ok (.invokestatic 66, 3) := by decide +kernel
theorem dX7_setTimes_19 : decode cX7_setTimes 19 = .ok (.ifCond .eq 28, 3) := by decide +kernel
theorem dX7_setTimes_22 : decode cX7_setTimes 22 = .ok (.iload_n 3, 1) := by decide +kernel
theorem dX7_setTimes_23 : decode cX7_setTimes 23 = .ok (.iconst 1, 1) := by decide +kernel
theorem dX7_setTimes_24 : decode cX7_setTimes 24 = .ok (.bipush 30, 2) := by decide +kernel
theorem dX7_setTimes_26 : decode cX7_setTimes 26 = .ok (.invokestatic 66, 3) := by decide +kernel
theorem dX7_setTimes_29 : decode cX7_setTimes 29 = .ok (.ifCond .eq 18, 3) := by decide +kernel
theorem dX7_setTimes_32 : decode cX7_setTimes 32 = .ok (.iload 4, 2) := by decide +kernel
theorem dX7_setTimes_34 : decode cX7_setTimes 34 = .ok (.iconst 1, 1) := by decide +kernel
theorem dX7_setTimes_35 : decode cX7_setTimes 35 = .ok (.bipush 60, 2) := by decide +kernel
theorem dX7_setTimes_37 : decode cX7_setTimes 37 = .ok (.invokestatic 66, 3) := by decide +kernel
theorem dX7_setTimes_40 : decode cX7_setTimes 40 = .ok (.ifCond .eq 7, 3) := by decide +kernel
theorem dX7_setTimes_43 : decode cX7_setTimes 43 = .ok (.iconst 1, 1) := by decide +kernel
theorem dX7_setTimes_44 : decode cX7_setTimes 44 = .ok (.goto 4, 3) := by decide +kernel
theorem dX7_setTimes_47 : decode cX7_setTimes 47 = .ok (.iconst 0, 1) := by decide +kernel
theorem dX7_setTimes_48 : decode cX7_setTimes 48 = .ok (.invokevirtual 80, 3) := by decide +kernel
theorem dX7_setTimes_51 : decode cX7_setTimes 51 = .ok (.ifCond .eq 24, 3) := by decide +kernel
theorem dX7_setTimes_54 : decode cX7_setTimes 54 = .ok (.aload_n 0, 1) := by decide +kernel
theorem dX7_setTimes_55 : decode cX7_setTimes 55 = .ok (.iload_n 1, 1) := by decide +kernel
theorem dX7_setTimes_56 : decode cX7_setTimes 56 = .ok (.putfield 13, 3) := by decide +kernel
theorem dX7_setTimes_59 : decode cX7_setTimes 59 = .ok (.aload_n 0, 1) := by decide +kernel
theorem dX7_setTimes_60 : decode cX7_setTimes 60 = .ok (.iload_n 2, 1) := by decide +kernel
theorem dX7_setTimes_61 : decode cX7_setTimes 61 = .ok (.putfield 16, 3) := by decide +kernel
theorem dX7_setTimes_64 : decode cX7_setTimes 64 = .ok (.aload_n 0, 1) := by decide +kernel
theorem dX7_setTimes_65 : decode cX7_setTimes 65 = .ok (.iload_n 3, 1) := by decide +kernel
theorem dX7_setTimes_66 : decode cX7_setTimes 66 = .ok (.putfield 19, 3) := by decide +kernel
theorem dX7_setTimes_69 : decode cX7_setTimes 69 = .ok (.aload_n 0, 1) := by decide +kernel
theorem dX7_setTimes_70 : decode cX7_setTimes 70 = .ok (.iload 4, 2) := by decide +kernel
theorem dX7_setTimes_72 : decode cX7_setTimes 72 = .ok (.putfield 22, 3) := by decide +kernel
theorem dX7_setTimes_75 : decode cX7_setTimes 75 = .ok (.return_, 1) := by decide +kernel
set_option maxRecDepth 20000 in
theorem ggX7_setEyes_X7_in : GoodIn wsX7_setEyes wsX7_in := goodIn_r _ [7] (by decide +kernel) (by decide +kernel)
set_option maxRecDepth 20000 in
theorem gX7_setEyes_X7_in : GoodIn wsX7_setEyes (va_wsS RX7 66 yX7_in wsX7_in) := goodIn_app (goodIn_of _ (by decide +kernel)) ggX7_setEyes_X7_in
set_option maxRecDepth 20000 in
theorem ggX7_setEyes_X7_asksSetting : GoodIn wsX7_setEyes wsX7_asksSetting := goodIn_r _ [11, 12, 13, 14, 15, 16, 17, 18, 19, 20, 21, 22, 23, 24, 25, 26, 27, 28, 29, 30, 31, 32, 33, 34, 35, 36, 37, 38, 39, 40, 41, 42, 43, 44, 45, 46, 47, 48] (by decide +kernel) (by decide +kernel)
set_option maxRecDepth 20000 in
theorem gX7_setEyes_X7_asksSetting : GoodIn wsX7_setEyes (wsV RX7 80 RX7 yX7_asksSetting wsX7_asksSetting) := goodIn_app (goodIn_of _ (by decide +kernel)) ggX7_setEyes_X7_asksSetting
theorem dX7_setEyes_0 : decode cX7_setEyes 0 = .ok (.aload_n 0, 1) := by decide +kernel
theorem dX7_setEyes_1 : decode cX7_setEyes 1 = .ok (.iload_n 1, 1) := by decide +kernel
theorem dX7_setEyes_2 : decode cX7_setEyes 2 = .ok (.iconst 1, 1) := by decide +kernel
theorem dX7_setEyes_3 : decode cX7_setEyes 3 = .ok (.iconst 5, 1) := by decide +kernel
theorem dX7_setEyes_4 : decode cX7_setEyes 4 = .ok (.invokestatic 66, 3) := by decide +kernel
theorem dX7_setEyes_7 : decode cX7_setEyes 7 = .ok (.ifCond .eq 26, 3) := by decide +kernel
theorem dX7_setEyes_10 : decode cX7_setEyes 10 = .ok (.iload_n 2, 1) := by decide +kernel
theorem dX7_setEyes_11 : decode cX7_setEyes 11 = .ok (.iconst 1, 1) := by decide +kernel
theorem dX7_setEyes_12 : decode cX7_setEyes 12 = .ok (.iconst 5, 1) := by decide +kernel
theorem dX7_setEyes_13 : decode cX7_setEyes 13 = .ok (.invokestatic 66, 3) := by decide +kernel
theorem dX7_setEyes_16 : decode cX7_setEyes 16 = .ok (.ifCond .eq 17, 3) := by decide +kernel
theorem dX7_setEyes_19 : decode cX7_setEyes 19 = .ok (.iload_n 3, 1) := by decide +kernel
theorem dX7_setEyes_20 : decode cX7_setEyes 20 = .ok (.iconst 5, 1) := by decide +kernel
theorem dX7_setEyes_21 : decode cX7_setEyes 21 = .ok (.bipush 100, 2) := by decide +kernel
theorem dX7_setEyes_23 : decode cX7_setEyes 23 = .ok (.invokestatic 66, 3) := by decide +kernel
theorem dX7_setEyes_26 : decode cX7_setEyes 26 = .ok (.ifCond .eq 7, 3) := by decide +kernel
theorem dX7_setEyes_29 : decode cX7_setEyes 29 = .ok (.iconst 1, 1) := by decide +kernel
theorem dX7_setEyes_30 : decode cX7_setEyes 30 = .ok (.goto 4, 3) := by decide +kernel
theorem dX7_setEyes_33 : decode cX7_setEyes 33 = .ok (.iconst 0, 1) := by decide +kernel
theorem dX7_setEyes_34 : decode cX7_setEyes 34 = .ok (.invokevirtual 80, 3) := by decide +kernel
theorem dX7_setEyes_37 : decode cX7_setEyes 37 = .ok (.ifCond .eq 18, 3) := by decide +kernel
theorem dX7_setEyes_40 : decode cX7_setEyes 40 = .ok (.aload_n 0, 1) := by decide +kernel
theorem dX7_setEyes_41 : decode cX7_setEyes 41 = .ok (.iload_n 1, 1) := by decide +kernel
theorem dX7_setEyes_42 : decode cX7_setEyes 42 = .ok (.putfield 25, 3) := by decide +kernel
theorem dX7_setEyes_45 : decode cX7_setEyes 45 = .ok (.aload_n 0, 1) := by decide +kernel
theorem dX7_setEyes_46 : decode cX7_setEyes 46 = .ok (.iload_n 2, 1) := by decide +kernel
theorem dX7_setEyes_47 : decode cX7_setEyes 47 = .ok (.putfield 28, 3) := by decide +kernel
theorem dX7_setEyes_50 : decode cX7_setEyes 50 = .ok (.aload_n 0, 1) := by decide +kernel
theorem dX7_setEyes_51 : decode cX7_setEyes 51 = .ok (.iload_n 3, 1) := by decide +kernel
theorem dX7_setEyes_52 : decode cX7_setEyes 52 = .ok (.putfield 31, 3) := by decide +kernel
theorem dX7_setEyes_55 : decode cX7_setEyes 55 = .ok (.return_, 1) := by decide +kernel
set_option maxRecDepth 20000 in
theorem ggX7_setFurnace_X7_in : GoodIn wsX7_setFurnace wsX7_in := goodIn_r _ [7] (by decide +kernel) (by decide +kernel)
set_option maxRecDepth 20000 in
theorem gX7_setFurnace_X7_in : GoodIn wsX7_setFurnace (va_wsS RX7 66 yX7_in wsX7_in) := goodIn_app (goodIn_of _ (by decide +kernel)) ggX7_setFurnace_X7_in
set_option maxRecDepth 20000 in
theorem ggX7_setFurnace_X7_asksSetting : GoodIn wsX7_setFurnace wsX7_asksSetting := goodIn_r _ [11, 12, 13, 14, 15, 16, 17, 18, 19, 20, 21, 22, 23, 24, 25, 26, 27, 28, 29, 30, 31, 32, 33, 34, 35, 36, 37, 38, 39, 40, 41, 42, 43, 44, 45, 46, 47, 48] (by decide +kernel) (by decide +kernel)
set_option maxRecDepth 20000 in
theorem gX7_setFurnace_X7_asksSetting : GoodIn wsX7_setFurnace (wsV RX7 80 RX7 yX7_asksSetting wsX7_asksSetting) := goodIn_app (goodIn_of _ (by decide +kernel)) ggX7_setFurnace_X7_asksSetting
theorem dX7_setFurnace_0 : decode cX7_setFurnace 0 = .ok (.aload_n 0, 1) := by decide +kernel
theorem dX7_setFurnace_1 : decode cX7_setFurnace 1 = .ok (.iload_n 1, 1) := by decide +kernel
theorem dX7_setFurnace_2 : decode cX7_setFurnace 2 = .ok (.iconst 1, 1) := by decide +kernel
theorem dX7_setFurnace_3 : decode cX7_setFurnace 3 = .ok (.sipush 500, 3) := by decide +kernel
theorem dX7_setFurnace_6 : decode cX7_setFurnace 6 = .ok (.invokestatic 66, 3) := by decide +kernel
theorem dX7_setFurnace_9 : decode cX7_setFurnace 9 = .ok (.ifCond .eq 27, 3) := by decide +kernel
theorem dX7_setFurnace_12 : decode cX7_setFurnace 12 = .ok (.iload_n 2, 1) := by decide +kernel
theorem dX7_setFurnace_13 : decode cX7_setFurnace 13 = .ok (.iconst 1, 1) := by decide +kernel
theorem dX7_setFurnace_14 : decode cX7_setFurnace 14 = .ok (.bipush 50, 2) := by decide +kernel
theorem dX7_setFurnace_16 : decode cX7_setFurnace 16 = .ok (.invokestatic 66, 3) := by decide +kernel
theorem dX7_setFurnace_19 : decode cX7_setFurnace 19 = .ok (.ifCond .eq 17, 3) := by decide +kernel
theorem dX7_setFurnace_22 : decode cX7_setFurnace 22 = .ok (.iload_n 3, 1) := by decide +kernel
theorem dX7_setFurnace_23 : decode cX7_setFurnace 23 = .ok (.iconst 1, 1) := by decide +kernel
theorem dX7_setFurnace_24 : decode cX7_setFurnace 24 = .ok (.bipush 50, 2) := by decide +kernel
theorem dX7_setFurnace_26 : decode cX7_setFurnace 26 = .ok (.invokestatic 66, 3) := by decide +kernel
theorem dX7_setFurnace_29 : decode cX7_setFurnace 29 = .ok (.ifCond .eq 7, 3) := by decide +kernel
theorem dX7_setFurnace_32 : decode cX7_setFurnace 32 = .ok (.iconst 1, 1) := by decide +kernel
theorem dX7_setFurnace_33 : decode cX7_setFurnace 33 = .ok (.goto 4, 3) := by decide +kernel
theorem dX7_setFurnace_36 : decode cX7_setFurnace 36 = .ok (.iconst 0, 1) := by decide +kernel
theorem dX7_setFurnace_37 : decode cX7_setFurnace 37 = .ok (.invokevirtual 80, 3) := by decide +kernel
theorem dX7_setFurnace_40 : decode cX7_setFurnace 40 = .ok (.ifCond .eq 18, 3) := by decide +kernel
theorem dX7_setFurnace_43 : decode cX7_setFurnace 43 = .ok (.aload_n 0, 1) := by decide +kernel
theorem dX7_setFurnace_44 : decode cX7_setFurnace 44 = .ok (.iload_n 1, 1) := by decide +kernel
theorem dX7_setFurnace_45 : decode cX7_setFurnace 45 = .ok (.putfield 34, 3) := by decide +kernel
theorem dX7_setFurnace_48 : decode cX7_setFurnace 48 = .ok (.aload_n 0, 1) := by decide +kernel
theorem dX7_setFurnace_49 : decode cX7_setFurnace 49 = .ok (.iload_n 2, 1) := by decide +kernel
theorem dX7_setFurnace_50 : decode cX7_setFurnace 50 = .ok (.putfield 37, 3) := by decide +kernel
theorem dX7_setFurnace_53 : decode cX7_setFurnace 53 = .ok (.aload_n 0, 1) := by decide +kernel
theorem dX7_setFurnace_54 : decode cX7_setFurnace 54 = .ok (.iload_n 3, 1) := by decide +kernel
theorem dX7_setFurnace_55 : decode cX7_setFurnace 55 = .ok (.putfield 40, 3) := by decide +kernel
theorem dX7_setFurnace_58 : decode cX7_setFurnace 58 = .ok (.return_, 1) := by decide +kernel
theorem dX7_has_0 : decode cX7_has 0 = .ok (.iload_n 0, 1) := by decide +kernel
theorem dX7_has_1 : decode cX7_has 1 = .ok (.iload_n 1, 1) := by decide +kernel
theorem dX7_has_2 : decode cX7_has 2 = .ok (.ishr, 1) := by decide +kernel
theorem dX7_has_3 : decode cX7_has 3 = .ok (.iconst 1, 1) := by decide +kernel
theorem dX7_has_4 : decode cX7_has 4 = .ok (.iand, 1) := by decide +kernel
theorem dX7_has_5 : decode cX7_has 5 = .ok (.iconst 1, 1) := by decide +kernel
theorem dX7_has_6 : decode cX7_has 6 = .ok (.if_icmp .ne 7, 3) := by decide +kernel
theorem dX7_has_9 : decode cX7_has 9 = .ok (.iconst 1, 1) := by decide +kernel
theorem dX7_has_10 : decode cX7_has 10 = .ok (.goto 4, 3) := by decide +kernel
theorem dX7_has_13 : decode cX7_has 13 = .ok (.iconst 0, 1) := by decide +kernel
theorem dX7_has_14 : decode cX7_has 14 = .ok (.ireturn, 1) := by decide +kernel
set_option maxRecDepth 20000 in
theorem ggX7_looks_X7_has : GoodIn wsX7_looks wsX7_has := goodIn_r _ [7] (by decide +kernel) (by decide +kernel)
set_option maxRecDepth 20000 in
theorem gX7_looks_X7_has : GoodIn wsX7_looks (va_wsS RX7 83 yX7_has wsX7_has) := goodIn_app (goodIn_of _ (by decide +kernel)) ggX7_looks_X7_has
theorem dX7_looks_0 : decode cX7_looks 0 = .ok (.iload_n 1, 1) := by decide +kernel
theorem dX7_looks_1 : decode cX7_looks 1 = .ok (.iconst 3, 1) := by decide +kernel
theorem dX7_looks_2 : decode cX7_looks 2 = .ok (.iload_n 2, 1) := by decide +kernel
theorem dX7_looks_3 : decode cX7_looks 3 = .ok (.iadd, 1) := by decide +kernel
theorem dX7_looks_4 : decode cX7_looks 4 = .ok (.invokestatic 83, 3) := by decide +kernel
theorem dX7_looks_7 : decode cX7_looks 7 = .ok (.istore 4, 2) := by decide +kernel
theorem dX7_looks_9 : decode cX7_looks 9 = .ok (.iload 4, 2) := by decide +kernel
theorem dX7_looks_11 : decode cX7_looks 11 = .ok (.aload_n 0, 1) := by decide +kernel
theorem dX7_looks_12 : decode cX7_looks 12 = .ok (.getfield 87, 3) := by decide +kernel
theorem dX7_looks_15 : decode cX7_looks 15 = .ok (.iload_n 2, 1) := by decide +kernel
theorem dX7_looks_16 : decode cX7_looks 16 = .ok (.invokestatic 83, 3) := by decide +kernel
theorem dX7_looks_19 : decode cX7_looks 19 = .ok (.if_icmp .ne 5, 3) := by decide +kernel
theorem dX7_looks_22 : decode cX7_looks 22 = .ok (.iconst 0, 1) := by decide +kernel
theorem dX7_looks_23 : decode cX7_looks 23 = .ok (.ireturn, 1) := by decide +kernel
theorem dX7_looks_24 : decode cX7_looks 24 = .ok (.iload_n 3, 1) := by decide +kernel
theorem dX7_looks_25 : decode cX7_looks 25 = .ok (.iconst 1, 1) := by decide +kernel
theorem dX7_looks_26 : decode cX7_looks 26 = .ok (.iadd, 1) := by decide +kernel
theorem dX7_looks_27 : decode cX7_looks 27 = .ok (.iload 4, 2) := by decide +kernel
theorem dX7_looks_29 : decode cX7_looks 29 = .ok (.ifCond .eq 10, 3) := by decide +kernel
theorem dX7_looks_32 : decode cX7_looks 32 = .ok (.aload_n 0, 1) := by decide +kernel
theorem dX7_looks_33 : decode cX7_looks 33 = .ok (.getfield 25, 3) := by decide +kernel
theorem dX7_looks_36 : decode cX7_looks 36 = .ok (.goto 7, 3) := by decide +kernel
theorem dX7_looks_39 : decode cX7_looks 39 = .ok (.aload_n 0, 1) := by decide +kernel
theorem dX7_looks_40 : decode cX7_looks 40 = .ok (.getfield 28, 3) := by decide +kernel
theorem dX7_looks_43 : decode cX7_looks 43 = .ok (.if_icmp .ge 7, 3) := by decide +kernel
theorem dX7_looks_46 : decode cX7_looks 46 = .ok (.iload_n 3, 1) := by decide +kernel
theorem dX7_looks_47 : decode cX7_looks 47 = .ok (.iconst 1, 1) := by decide +kernel
theorem dX7_looks_48 : decode cX7_looks 48 = .ok (.iadd, 1) := by decide +kernel
theorem dX7_looks_49 : decode cX7_looks 49 = .ok (.ireturn, 1) := by decide +kernel
theorem dX7_looks_50 : decode cX7_looks 50 = .ok (.aload_n 0, 1) := by decide +kernel
theorem dX7_looks_51 : decode cX7_looks 51 = .ok (.dup, 1) := by decide +kernel
theorem dX7_looks_52 : decode cX7_looks 52 = .ok (.getfield 87, 3) := by decide +kernel
theorem dX7_looks_55 : decode cX7_looks 55 = .ok (.iload 4, 2) := by decide +kernel
theorem dX7_looks_57 : decode cX7_looks 57 = .ok (.ifCond .eq 9, 3) := by decide +kernel
theorem dX7_looks_60 : decode cX7_looks 60 = .ok (.iconst 1, 1) := by decide +kernel
theorem dX7_looks_61 : decode cX7_looks 61 = .ok (.iload_n 2, 1) := by decide +kernel
theorem dX7_looks_62 : decode cX7_looks 62 = .ok (.ishl, 1) := by decide +kernel
theorem dX7_looks_63 : decode cX7_looks 63 = .ok (.goto 7, 3) := by decide +kernel
theorem dX7_looks_66 : decode cX7_looks 66 = .ok (.iconst 1, 1) := by decide +kernel
theorem dX7_looks_67 : decode cX7_looks 67 = .ok (.iload_n 2, 1) := by decide +kernel
theorem dX7_looks_68 : decode cX7_looks 68 = .ok (.ishl, 1) := by decide +kernel
theorem dX7_looks_69 : decode cX7_looks 69 = .ok (.ineg, 1) := by decide +kernel
theorem dX7_looks_70 : decode cX7_looks 70 = .ok (.iadd, 1) := by decide +kernel
theorem dX7_looks_71 : decode cX7_looks 71 = .ok (.putfield 87, 3) := by decide +kernel
theorem dX7_looks_74 : decode cX7_looks 74 = .ok (.iconst 0, 1) := by decide +kernel
theorem dX7_looks_75 : decode cX7_looks 75 = .ok (.ireturn, 1) := by decide +kernel
theorem dX7_nears_0 : decode cX7_nears 0 = .ok (.iload_n 1, 1) := by decide +kernel
theorem dX7_nears_1 : decode cX7_nears 1 = .ok (.iload_n 0, 1) := by decide +kernel
theorem dX7_nears_2 : decode cX7_nears 2 = .ok (.if_icmp .le 22, 3) := by decide +kernel
theorem dX7_nears_5 : decode cX7_nears 5 = .ok (.iload_n 0, 1) := by decide +kernel
theorem dX7_nears_6 : decode cX7_nears 6 = .ok (.iload_n 1, 1) := by decide +kernel
theorem dX7_nears_7 : decode cX7_nears 7 = .ok (.iload_n 0, 1) := by decide +kernel
theorem dX7_nears_8 : decode cX7_nears 8 = .ok (.isub, 1) := by decide +kernel
theorem dX7_nears_9 : decode cX7_nears 9 = .ok (.iload_n 2, 1) := by decide +kernel
theorem dX7_nears_10 : decode cX7_nears 10 = .ok (.if_icmp .ge 9, 3) := by decide +kernel
theorem dX7_nears_13 : decode cX7_nears 13 = .ok (.iload_n 1, 1) := by decide +kernel
theorem dX7_nears_14 : decode cX7_nears 14 = .ok (.iload_n 0, 1) := by decide +kernel
theorem dX7_nears_15 : decode cX7_nears 15 = .ok (.isub, 1) := by decide +kernel
theorem dX7_nears_16 : decode cX7_nears 16 = .ok (.goto 4, 3) := by decide +kernel
theorem dX7_nears_19 : decode cX7_nears 19 = .ok (.iload_n 2, 1) := by decide +kernel
theorem dX7_nears_20 : decode cX7_nears 20 = .ok (.iadd, 1) := by decide +kernel
theorem dX7_nears_21 : decode cX7_nears 21 = .ok (.goto 19, 3) := by decide +kernel
theorem dX7_nears_24 : decode cX7_nears 24 = .ok (.iload_n 0, 1) := by decide +kernel
theorem dX7_nears_25 : decode cX7_nears 25 = .ok (.iload_n 0, 1) := by decide +kernel
theorem dX7_nears_26 : decode cX7_nears 26 = .ok (.iload_n 1, 1) := by decide +kernel
theorem dX7_nears_27 : decode cX7_nears 27 = .ok (.isub, 1) := by decide +kernel
theorem dX7_nears_28 : decode cX7_nears 28 = .ok (.iload_n 2, 1) := by decide +kernel
theorem dX7_nears_29 : decode cX7_nears 29 = .ok (.if_icmp .ge 9, 3) := by decide +kernel
theorem dX7_nears_32 : decode cX7_nears 32 = .ok (.iload_n 0, 1) := by decide +kernel
theorem dX7_nears_33 : decode cX7_nears 33 = .ok (.iload_n 1, 1) := by decide +kernel
theorem dX7_nears_34 : decode cX7_nears 34 = .ok (.isub, 1) := by decide +kernel
theorem dX7_nears_35 : decode cX7_nears 35 = .ok (.goto 4, 3) := by decide +kernel
theorem dX7_nears_38 : decode cX7_nears 38 = .ok (.iload_n 2, 1) := by decide +kernel
theorem dX7_nears_39 : decode cX7_nears 39 = .ok (.isub, 1) := by decide +kernel
theorem dX7_nears_40 : decode cX7_nears 40 = .ok (.ireturn, 1) := by decide +kernel
set_option maxRecDepth 20000 in
theorem ggX7_goes_X7_nears : GoodIn wsX7_goes wsX7_nears := goodIn_r _ [10] (by decide +kernel) (by decide +kernel)
set_option maxRecDepth 20000 in
theorem gX7_goes_X7_nears : GoodIn wsX7_goes (va_wsS RX7 96 yX7_nears wsX7_nears) := goodIn_app (goodIn_of _ (by decide +kernel)) ggX7_goes_X7_nears
theorem dX7_goes_0 : decode cX7_goes 0 = .ok (.aload_n 0, 1) := by decide +kernel
theorem dX7_goes_1 : decode cX7_goes 1 = .ok (.getfield 77, 3) := by decide +kernel
theorem dX7_goes_4 : decode cX7_goes 4 = .ok (.ifCond .ne 7, 3) := by decide +kernel
theorem dX7_goes_7 : decode cX7_goes 7 = .ok (.iconst 0, 1) := by decide +kernel
theorem dX7_goes_8 : decode cX7_goes 8 = .ok (.goto 72, 3) := by decide +kernel
theorem dX7_goes_11 : decode cX7_goes 11 = .ok (.aload_n 0, 1) := by decide +kernel
theorem dX7_goes_12 : decode cX7_goes 12 = .ok (.getfield 77, 3) := by decide +kernel
theorem dX7_goes_15 : decode cX7_goes 15 = .ok (.iconst 1, 1) := by decide +kernel
theorem dX7_goes_16 : decode cX7_goes 16 = .ok (.if_icmp .ne 8, 3) := by decide +kernel
theorem dX7_goes_19 : decode cX7_goes 19 = .ok (.bipush 100, 2) := by decide +kernel
theorem dX7_goes_21 : decode cX7_goes 21 = .ok (.goto 59, 3) := by decide +kernel
theorem dX7_goes_24 : decode cX7_goes 24 = .ok (.aload_n 0, 1) := by decide +kernel
theorem dX7_goes_25 : decode cX7_goes 25 = .ok (.getfield 77, 3) := by decide +kernel
theorem dX7_goes_28 : decode cX7_goes 28 = .ok (.iconst 2, 1) := by decide +kernel
theorem dX7_goes_29 : decode cX7_goes 29 = .ok (.if_icmp .eq 11, 3) := by decide +kernel
theorem dX7_goes_32 : decode cX7_goes 32 = .ok (.aload_n 0, 1) := by decide +kernel
theorem dX7_goes_33 : decode cX7_goes 33 = .ok (.getfield 77, 3) := by decide +kernel
theorem dX7_goes_36 : decode cX7_goes 36 = .ok (.iconst 3, 1) := by decide +kernel
theorem dX7_goes_37 : decode cX7_goes 37 = .ok (.if_icmp .ne 8, 3) := by decide +kernel
theorem dX7_goes_40 : decode cX7_goes 40 = .ok (.bipush 30, 2) := by decide +kernel
theorem dX7_goes_42 : decode cX7_goes 42 = .ok (.goto 38, 3) := by decide +kernel
theorem dX7_goes_45 : decode cX7_goes 45 = .ok (.aload_n 0, 1) := by decide +kernel
theorem dX7_goes_46 : decode cX7_goes 46 = .ok (.getfield 77, 3) := by decide +kernel
theorem dX7_goes_49 : decode cX7_goes 49 = .ok (.iconst 4, 1) := by decide +kernel
theorem dX7_goes_50 : decode cX7_goes 50 = .ok (.if_icmp .ne 28, 3) := by decide +kernel
theorem dX7_goes_53 : decode cX7_goes 53 = .ok (.aload_n 0, 1) := by decide +kernel
theorem dX7_goes_54 : decode cX7_goes 54 = .ok (.getfield 7, 3) := by decide +kernel
theorem dX7_goes_57 : decode cX7_goes 57 = .ok (.aload_n 0, 1) := by decide +kernel
theorem dX7_goes_58 : decode cX7_goes 58 = .ok (.getfield 90, 3) := by decide +kernel
theorem dX7_goes_61 : decode cX7_goes 61 = .ok (.if_icmp .le 10, 3) := by decide +kernel
theorem dX7_goes_64 : decode cX7_goes 64 = .ok (.aload_n 0, 1) := by decide +kernel
theorem dX7_goes_65 : decode cX7_goes 65 = .ok (.getfield 7, 3) := by decide +kernel
theorem dX7_goes_68 : decode cX7_goes 68 = .ok (.goto 12, 3) := by decide +kernel
theorem dX7_goes_71 : decode cX7_goes 71 = .ok (.aload_n 0, 1) := by decide +kernel
theorem dX7_goes_72 : decode cX7_goes 72 = .ok (.getfield 90, 3) := by decide +kernel
theorem dX7_goes_75 : decode cX7_goes 75 = .ok (.goto 5, 3) := by decide +kernel
theorem dX7_goes_78 : decode cX7_goes 78 = .ok (.bipush 60, 2) := by decide +kernel
theorem dX7_goes_80 : decode cX7_goes 80 = .ok (.istore_n 1, 1) := by decide +kernel
theorem dX7_goes_81 : decode cX7_goes 81 = .ok (.aload_n 0, 1) := by decide +kernel
theorem dX7_goes_82 : decode cX7_goes 82 = .ok (.getfield 77, 3) := by decide +kernel
theorem dX7_goes_85 : decode cX7_goes 85 = .ok (.iconst 3, 1) := by decide +kernel
theorem dX7_goes_86 : decode cX7_goes 86 = .ok (.if_icmp .ne 8, 3) := by decide +kernel
theorem dX7_goes_89 : decode cX7_goes 89 = .ok (.bipush 20, 2) := by decide +kernel
theorem dX7_goes_91 : decode cX7_goes 91 = .ok (.goto 37, 3) := by decide +kernel
theorem dX7_goes_94 : decode cX7_goes 94 = .ok (.aload_n 0, 1) := by decide +kernel
theorem dX7_goes_95 : decode cX7_goes 95 = .ok (.getfield 77, 3) := by decide +kernel
theorem dX7_goes_98 : decode cX7_goes 98 = .ok (.iconst 4, 1) := by decide +kernel
theorem dX7_goes_99 : decode cX7_goes 99 = .ok (.if_icmp .ne 28, 3) := by decide +kernel
theorem dX7_goes_102 : decode cX7_goes 102 = .ok (.aload_n 0, 1) := by decide +kernel
theorem dX7_goes_103 : decode cX7_goes 103 = .ok (.getfield 7, 3) := by decide +kernel
theorem dX7_goes_106 : decode cX7_goes 106 = .ok (.aload_n 0, 1) := by decide +kernel
theorem dX7_goes_107 : decode cX7_goes 107 = .ok (.getfield 93, 3) := by decide +kernel
theorem dX7_goes_110 : decode cX7_goes 110 = .ok (.if_icmp .ge 10, 3) := by decide +kernel
theorem dX7_goes_113 : decode cX7_goes 113 = .ok (.aload_n 0, 1) := by decide +kernel
theorem dX7_goes_114 : decode cX7_goes 114 = .ok (.getfield 7, 3) := by decide +kernel
theorem dX7_goes_117 : decode cX7_goes 117 = .ok (.goto 11, 3) := by decide +kernel
theorem dX7_goes_120 : decode cX7_goes 120 = .ok (.aload_n 0, 1) := by decide +kernel
theorem dX7_goes_121 : decode cX7_goes 121 = .ok (.getfield 93, 3) := by decide +kernel
theorem dX7_goes_124 : decode cX7_goes 124 = .ok (.goto 4, 3) := by decide +kernel
theorem dX7_goes_127 : decode cX7_goes 127 = .ok (.iconst 0, 1) := by decide +kernel
theorem dX7_goes_128 : decode cX7_goes 128 = .ok (.istore_n 2, 1) := by decide +kernel
theorem dX7_goes_129 : decode cX7_goes 129 = .ok (.aload_n 0, 1) := by decide +kernel
theorem dX7_goes_130 : decode cX7_goes 130 = .ok (.aload_n 0, 1) := by decide +kernel
theorem dX7_goes_131 : decode cX7_goes 131 = .ok (.getfield 93, 3) := by decide +kernel
theorem dX7_goes_134 : decode cX7_goes 134 = .ok (.iload_n 1, 1) := by decide +kernel
theorem dX7_goes_135 : decode cX7_goes 135 = .ok (.aload_n 0, 1) := by decide +kernel
theorem dX7_goes_136 : decode cX7_goes 136 = .ok (.getfield 37, 3) := by decide +kernel
theorem dX7_goes_139 : decode cX7_goes 139 = .ok (.invokestatic 96, 3) := by decide +kernel
theorem dX7_goes_142 : decode cX7_goes 142 = .ok (.putfield 93, 3) := by decide +kernel
theorem dX7_goes_145 : decode cX7_goes 145 = .ok (.aload_n 0, 1) := by decide +kernel
theorem dX7_goes_146 : decode cX7_goes 146 = .ok (.aload_n 0, 1) := by decide +kernel
theorem dX7_goes_147 : decode cX7_goes 147 = .ok (.getfield 90, 3) := by decide +kernel
theorem dX7_goes_150 : decode cX7_goes 150 = .ok (.iload_n 2, 1) := by decide +kernel
theorem dX7_goes_151 : decode cX7_goes 151 = .ok (.aload_n 0, 1) := by decide +kernel
theorem dX7_goes_152 : decode cX7_goes 152 = .ok (.getfield 77, 3) := by decide +kernel
theorem dX7_goes_155 : decode cX7_goes 155 = .ok (.iconst 3, 1) := by decide +kernel
theorem dX7_goes_156 : decode cX7_goes 156 = .ok (.if_icmp .eq 11, 3) := by decide +kernel
theorem dX7_goes_159 : decode cX7_goes 159 = .ok (.aload_n 0, 1) := by decide +kernel
theorem dX7_goes_160 : decode cX7_goes 160 = .ok (.getfield 77, 3) := by decide +kernel
theorem dX7_goes_163 : decode cX7_goes 163 = .ok (.iconst 4, 1) := by decide +kernel
theorem dX7_goes_164 : decode cX7_goes 164 = .ok (.if_icmp .ne 10, 3) := by decide +kernel
theorem dX7_goes_167 : decode cX7_goes 167 = .ok (.aload_n 0, 1) := by decide +kernel
theorem dX7_goes_168 : decode cX7_goes 168 = .ok (.getfield 40, 3) := by decide +kernel
theorem dX7_goes_171 : decode cX7_goes 171 = .ok (.goto 5, 3) := by decide +kernel
theorem dX7_goes_174 : decode cX7_goes 174 = .ok (.bipush 100, 2) := by decide +kernel
theorem dX7_goes_176 : decode cX7_goes 176 = .ok (.invokestatic 96, 3) := by decide +kernel
theorem dX7_goes_179 : decode cX7_goes 179 = .ok (.putfield 90, 3) := by decide +kernel
theorem dX7_goes_182 : decode cX7_goes 182 = .ok (.return_, 1) := by decide +kernel
theorem dX7_begins_0 : decode cX7_begins 0 = .ok (.aload_n 0, 1) := by decide +kernel
theorem dX7_begins_1 : decode cX7_begins 1 = .ok (.iload_n 1, 1) := by decide +kernel
theorem dX7_begins_2 : decode cX7_begins 2 = .ok (.putfield 77, 3) := by decide +kernel
theorem dX7_begins_5 : decode cX7_begins 5 = .ok (.aload_n 0, 1) := by decide +kernel
theorem dX7_begins_6 : decode cX7_begins 6 = .ok (.iload_n 2, 1) := by decide +kernel
theorem dX7_begins_7 : decode cX7_begins 7 = .ok (.putfield 100, 3) := by decide +kernel
theorem dX7_begins_10 : decode cX7_begins 10 = .ok (.aload_n 0, 1) := by decide +kernel
theorem dX7_begins_11 : decode cX7_begins 11 = .ok (.iconst 0, 1) := by decide +kernel
theorem dX7_begins_12 : decode cX7_begins 12 = .ok (.putfield 103, 3) := by decide +kernel
theorem dX7_begins_15 : decode cX7_begins 15 = .ok (.aload_n 0, 1) := by decide +kernel
theorem dX7_begins_16 : decode cX7_begins 16 = .ok (.iconst 0, 1) := by decide +kernel
theorem dX7_begins_17 : decode cX7_begins 17 = .ok (.putfield 106, 3) := by decide +kernel
theorem dX7_begins_20 : decode cX7_begins 20 = .ok (.aload_n 0, 1) := by decide +kernel
theorem dX7_begins_21 : decode cX7_begins 21 = .ok (.iload_n 1, 1) := by decide +kernel
theorem dX7_begins_22 : decode cX7_begins 22 = .ok (.iconst 3, 1) := by decide +kernel
theorem dX7_begins_23 : decode cX7_begins 23 = .ok (.if_icmp .eq 8, 3) := by decide +kernel
theorem dX7_begins_26 : decode cX7_begins 26 = .ok (.iload_n 1, 1) := by decide +kernel
theorem dX7_begins_27 : decode cX7_begins 27 = .ok (.iconst 4, 1) := by decide +kernel
theorem dX7_begins_28 : decode cX7_begins 28 = .ok (.if_icmp .ne 10, 3) := by decide +kernel
theorem dX7_begins_31 : decode cX7_begins 31 = .ok (.aload_n 0, 1) := by decide +kernel
theorem dX7_begins_32 : decode cX7_begins 32 = .ok (.getfield 90, 3) := by decide +kernel
theorem dX7_begins_35 : decode cX7_begins 35 = .ok (.goto 4, 3) := by decide +kernel
theorem dX7_begins_38 : decode cX7_begins 38 = .ok (.iconst 0, 1) := by decide +kernel
theorem dX7_begins_39 : decode cX7_begins 39 = .ok (.putfield 90, 3) := by decide +kernel
theorem dX7_begins_42 : decode cX7_begins 42 = .ok (.return_, 1) := by decide +kernel
set_option maxRecDepth 20000 in
theorem ggX7_lacks_X7_has : GoodIn wsX7_lacks wsX7_has := goodIn_r _ [4] (by decide +kernel) (by decide +kernel)
set_option maxRecDepth 20000 in
theorem gX7_lacks_X7_has : GoodIn wsX7_lacks (va_wsS RX7 83 yX7_has wsX7_has) := goodIn_app (goodIn_of _ (by decide +kernel)) ggX7_lacks_X7_has
set_option maxRecDepth 20000 in
theorem ggX7_lacks_X7_begins : GoodIn wsX7_lacks wsX7_begins := goodIn_r _ [8, 9, 10, 11, 12, 13, 14, 15, 16, 17, 18, 19, 20, 21, 22, 23, 24, 25, 26, 27, 28, 29, 30, 31, 32, 33, 34, 35, 36, 37, 38, 39, 40, 41, 42, 43, 44, 45, 46, 47, 48] (by decide +kernel) (by decide +kernel)
set_option maxRecDepth 20000 in
theorem gX7_lacks_X7_begins : GoodIn wsX7_lacks (wsV RX7 109 RX7 yX7_begins wsX7_begins) := goodIn_app (goodIn_of _ (by decide +kernel)) ggX7_lacks_X7_begins
theorem dX7_lacks_0 : decode cX7_lacks 0 = .ok (.iload_n 1, 1) := by decide +kernel
theorem dX7_lacks_1 : decode cX7_lacks 1 = .ok (.iconst 1, 1) := by decide +kernel
theorem dX7_lacks_2 : decode cX7_lacks 2 = .ok (.invokestatic 83, 3) := by decide +kernel
theorem dX7_lacks_5 : decode cX7_lacks 5 = .ok (.ifCond .ne 13, 3) := by decide +kernel
theorem dX7_lacks_8 : decode cX7_lacks 8 = .ok (.aload_n 0, 1) := by decide +kernel
theorem dX7_lacks_9 : decode cX7_lacks 9 = .ok (.bipush 6, 2) := by decide +kernel
theorem dX7_lacks_11 : decode cX7_lacks 11 = .ok (.iconst 1, 1) := by decide +kernel
theorem dX7_lacks_12 : decode cX7_lacks 12 = .ok (.invokevirtual 109, 3) := by decide +kernel
theorem dX7_lacks_15 : decode cX7_lacks 15 = .ok (.goto 23, 3) := by decide +kernel
theorem dX7_lacks_18 : decode cX7_lacks 18 = .ok (.iload_n 1, 1) := by decide +kernel
theorem dX7_lacks_19 : decode cX7_lacks 19 = .ok (.iconst 2, 1) := by decide +kernel
theorem dX7_lacks_20 : decode cX7_lacks 20 = .ok (.invokestatic 83, 3) := by decide +kernel
theorem dX7_lacks_23 : decode cX7_lacks 23 = .ok (.ifCond .ne 13, 3) := by decide +kernel
theorem dX7_lacks_26 : decode cX7_lacks 26 = .ok (.aload_n 0, 1) := by decide +kernel
theorem dX7_lacks_27 : decode cX7_lacks 27 = .ok (.bipush 6, 2) := by decide +kernel
theorem dX7_lacks_29 : decode cX7_lacks 29 = .ok (.iconst 2, 1) := by decide +kernel
theorem dX7_lacks_30 : decode cX7_lacks 30 = .ok (.invokevirtual 109, 3) := by decide +kernel
theorem dX7_lacks_33 : decode cX7_lacks 33 = .ok (.goto 5, 3) := by decide +kernel
theorem dX7_lacks_36 : decode cX7_lacks 36 = .ok (.iconst 0, 1) := by decide +kernel
theorem dX7_lacks_37 : decode cX7_lacks 37 = .ok (.ireturn, 1) := by decide +kernel
theorem dX7_lacks_38 : decode cX7_lacks 38 = .ok (.iconst 1, 1) := by decide +kernel
theorem dX7_lacks_39 : decode cX7_lacks 39 = .ok (.ireturn, 1) := by decide +kernel
set_option maxRecDepth 20000 in
theorem ggX7_decides_X7_has : GoodIn wsX7_decides wsX7_has := goodIn_r _ [8] (by decide +kernel) (by decide +kernel)
set_option maxRecDepth 20000 in
theorem gX7_decides_X7_has : GoodIn wsX7_decides (va_wsS RX7 83 yX7_has wsX7_has) := goodIn_app (goodIn_of _ (by decide +kernel)) ggX7_decides_X7_has
set_option maxRecDepth 20000 in
theorem ggX7_decides_X7_begins : GoodIn wsX7_decides wsX7_begins := goodIn_r _ [12, 1, 13, 3, 14, 15, 38, 39, 40, 41, 42, 43, 44, 45, 46, 47, 48, 49, 50, 51, 52, 53, 54, 55, 56, 57, 58, 59, 60, 61, 62, 63, 64, 65, 66, 67, 68, 69, 70, 71, 72] (by decide +kernel) (by decide +kernel)
set_option maxRecDepth 20000 in
theorem gX7_decides_X7_begins : GoodIn wsX7_decides (wsV RX7 109 RX7 yX7_begins wsX7_begins) := goodIn_app (goodIn_of _ (by decide +kernel)) ggX7_decides_X7_begins
set_option maxRecDepth 20000 in
theorem ggX7_decides_X7_purges : GoodIn wsX7_decides wsX7_purges := goodIn_r _ [19, 2, 20, 14, 21, 3, 22, 9, 10, 11, 7, 12, 1, 13, 15, 5, 6, 8, 38, 39, 40, 41, 42, 43, 44, 45, 46, 47, 48, 49, 50, 51, 52, 53, 54, 55, 56, 57, 58, 59, 60, 61, 62, 63, 64, 65, 66, 67, 68, 69, 70, 71, 72] (by decide +kernel) (by decide +kernel)
set_option maxRecDepth 20000 in
theorem gX7_decides_X7_purges : GoodIn wsX7_decides (wsV RX7 113 RX7 yX7_purges wsX7_purges) := goodIn_app (goodIn_of _ (by decide +kernel)) ggX7_decides_X7_purges
set_option maxRecDepth 20000 in
theorem ggX7_decides_X7_lights : GoodIn wsX7_decides wsX7_lights := goodIn_r _ [26, 1, 2, 3, 27, 28, 29, 30, 31, 7, 32, 5, 6, 8, 9, 10, 11, 12, 13, 14, 15, 38, 39, 40, 41, 42, 43, 44, 45, 46, 47, 48, 49, 50, 51, 52, 53, 54, 55, 56, 57, 58, 59, 60, 61, 62, 63, 64, 65, 66, 67, 68, 69, 70, 71, 72] (by decide +kernel) (by decide +kernel)
set_option maxRecDepth 20000 in
theorem gX7_decides_X7_lights : GoodIn wsX7_decides (wsV RX7 117 RX7 yX7_lights wsX7_lights) := goodIn_app (goodIn_of _ (by decide +kernel)) ggX7_decides_X7_lights
set_option maxRecDepth 20000 in
theorem ggX7_decides_X7_runs : GoodIn wsX7_decides wsX7_runs := goodIn_r _ [36, 2, 3, 37, 29, 30, 31, 7, 32, 5, 6, 8, 9, 10, 11, 12, 1, 13, 14, 15, 38, 39, 40, 41, 42, 43, 44, 45, 46, 47, 48, 49, 50, 51, 52, 53, 54, 55, 56, 57, 58, 59, 60, 61, 62, 63, 64, 65, 66, 67, 68, 69, 70, 71, 72] (by decide +kernel) (by decide +kernel)
set_option maxRecDepth 20000 in
theorem gX7_decides_X7_runs : GoodIn wsX7_decides (wsV RX7 120 RX7 yX7_runs wsX7_runs) := goodIn_app (goodIn_of _ (by decide +kernel)) ggX7_decides_X7_runs
theorem dX7_decides_0 : decode cX7_decides 0 = .ok (.iload_n 1, 1) := by decide +kernel
theorem dX7_decides_1 : decode cX7_decides 1 = .ok (.iconst 0, 1) := by decide +kernel
theorem dX7_decides_2 : decode cX7_decides 2 = .ok (.invokestatic 83, 3) := by decide +kernel
theorem dX7_decides_5 : decode cX7_decides 5 = .ok (.istore_n 2, 1) := by decide +kernel
theorem dX7_decides_6 : decode cX7_decides 6 = .ok (.aload_n 0, 1) := by decide +kernel
theorem dX7_decides_7 : decode cX7_decides 7 = .ok (.getfield 77, 3) := by decide +kernel
theorem dX7_decides_10 : decode cX7_decides 10 = .ok (.ifCond .ne 33, 3) := by decide +kernel
theorem dX7_decides_13 : decode cX7_decides 13 = .ok (.aload_n 0, 1) := by decide +kernel
theorem dX7_decides_14 : decode cX7_decides 14 = .ok (.getfield 87, 3) := by decide +kernel
theorem dX7_decides_17 : decode cX7_decides 17 = .ok (.ifCond .le 13, 3) := by decide +kernel
theorem dX7_decides_20 : decode cX7_decides 20 = .ok (.aload_n 0, 1) := by decide +kernel
theorem dX7_decides_21 : decode cX7_decides 21 = .ok (.bipush 6, 2) := by decide +kernel
theorem dX7_decides_23 : decode cX7_decides 23 = .ok (.iconst 3, 1) := by decide +kernel
theorem dX7_decides_24 : decode cX7_decides 24 = .ok (.invokevirtual 109, 3) := by decide +kernel
theorem dX7_decides_27 : decode cX7_decides 27 = .ok (.goto 123, 3) := by decide +kernel
theorem dX7_decides_30 : decode cX7_decides 30 = .ok (.iload_n 2, 1) := by decide +kernel
theorem dX7_decides_31 : decode cX7_decides 31 = .ok (.ifCond .eq 119, 3) := by decide +kernel
theorem dX7_decides_34 : decode cX7_decides 34 = .ok (.aload_n 0, 1) := by decide +kernel
theorem dX7_decides_35 : decode cX7_decides 35 = .ok (.iconst 1, 1) := by decide +kernel
theorem dX7_decides_36 : decode cX7_decides 36 = .ok (.iconst 0, 1) := by decide +kernel
theorem dX7_decides_37 : decode cX7_decides 37 = .ok (.invokevirtual 109, 3) := by decide +kernel
theorem dX7_decides_40 : decode cX7_decides 40 = .ok (.goto 110, 3) := by decide +kernel
theorem dX7_decides_43 : decode cX7_decides 43 = .ok (.aload_n 0, 1) := by decide +kernel
theorem dX7_decides_44 : decode cX7_decides 44 = .ok (.getfield 77, 3) := by decide +kernel
theorem dX7_decides_47 : decode cX7_decides 47 = .ok (.iconst 1, 1) := by decide +kernel
theorem dX7_decides_48 : decode cX7_decides 48 = .ok (.if_icmp .ne 12, 3) := by decide +kernel
theorem dX7_decides_51 : decode cX7_decides 51 = .ok (.aload_n 0, 1) := by decide +kernel
theorem dX7_decides_52 : decode cX7_decides 52 = .ok (.iload_n 1, 1) := by decide +kernel
theorem dX7_decides_53 : decode cX7_decides 53 = .ok (.iload_n 2, 1) := by decide +kernel
theorem dX7_decides_54 : decode cX7_decides 54 = .ok (.invokevirtual 113, 3) := by decide +kernel
theorem dX7_decides_57 : decode cX7_decides 57 = .ok (.goto 93, 3) := by decide +kernel
theorem dX7_decides_60 : decode cX7_decides 60 = .ok (.aload_n 0, 1) := by decide +kernel
theorem dX7_decides_61 : decode cX7_decides 61 = .ok (.getfield 77, 3) := by decide +kernel
theorem dX7_decides_64 : decode cX7_decides 64 = .ok (.iconst 2, 1) := by decide +kernel
theorem dX7_decides_65 : decode cX7_decides 65 = .ok (.if_icmp .eq 11, 3) := by decide +kernel
theorem dX7_decides_68 : decode cX7_decides 68 = .ok (.aload_n 0, 1) := by decide +kernel
theorem dX7_decides_69 : decode cX7_decides 69 = .ok (.getfield 77, 3) := by decide +kernel
theorem dX7_decides_72 : decode cX7_decides 72 = .ok (.iconst 3, 1) := by decide +kernel
theorem dX7_decides_73 : decode cX7_decides 73 = .ok (.if_icmp .ne 12, 3) := by decide +kernel
theorem dX7_decides_76 : decode cX7_decides 76 = .ok (.aload_n 0, 1) := by decide +kernel
theorem dX7_decides_77 : decode cX7_decides 77 = .ok (.iload_n 1, 1) := by decide +kernel
theorem dX7_decides_78 : decode cX7_decides 78 = .ok (.iload_n 2, 1) := by decide +kernel
theorem dX7_decides_79 : decode cX7_decides 79 = .ok (.invokevirtual 117, 3) := by decide +kernel
theorem dX7_decides_82 : decode cX7_decides 82 = .ok (.goto 68, 3) := by decide +kernel
theorem dX7_decides_85 : decode cX7_decides 85 = .ok (.aload_n 0, 1) := by decide +kernel
theorem dX7_decides_86 : decode cX7_decides 86 = .ok (.getfield 77, 3) := by decide +kernel
theorem dX7_decides_89 : decode cX7_decides 89 = .ok (.iconst 4, 1) := by decide +kernel
theorem dX7_decides_90 : decode cX7_decides 90 = .ok (.if_icmp .ne 12, 3) := by decide +kernel
theorem dX7_decides_93 : decode cX7_decides 93 = .ok (.aload_n 0, 1) := by decide +kernel
theorem dX7_decides_94 : decode cX7_decides 94 = .ok (.iload_n 1, 1) := by decide +kernel
theorem dX7_decides_95 : decode cX7_decides 95 = .ok (.iload_n 2, 1) := by decide +kernel
theorem dX7_decides_96 : decode cX7_decides 96 = .ok (.invokevirtual 120, 3) := by decide +kernel
theorem dX7_decides_99 : decode cX7_decides 99 = .ok (.goto 51, 3) := by decide +kernel
theorem dX7_decides_102 : decode cX7_decides 102 = .ok (.aload_n 0, 1) := by decide +kernel
theorem dX7_decides_103 : decode cX7_decides 103 = .ok (.getfield 77, 3) := by decide +kernel
theorem dX7_decides_106 : decode cX7_decides 106 = .ok (.iconst 5, 1) := by decide +kernel
theorem dX7_decides_107 : decode cX7_decides 107 = .ok (.if_icmp .ne 43, 3) := by decide +kernel
theorem dX7_decides_110 : decode cX7_decides 110 = .ok (.aload_n 0, 1) := by decide +kernel
theorem dX7_decides_111 : decode cX7_decides 111 = .ok (.getfield 103, 3) := by decide +kernel
theorem dX7_decides_114 : decode cX7_decides 114 = .ok (.aload_n 0, 1) := by decide +kernel
theorem dX7_decides_115 : decode cX7_decides 115 = .ok (.getfield 22, 3) := by decide +kernel
theorem dX7_decides_118 : decode cX7_decides 118 = .ok (.if_icmp .lt 32, 3) := by decide +kernel
theorem dX7_decides_121 : decode cX7_decides 121 = .ok (.aload_n 0, 1) := by decide +kernel
theorem dX7_decides_122 : decode cX7_decides 122 = .ok (.aload_n 0, 1) := by decide +kernel
theorem dX7_decides_123 : decode cX7_decides 123 = .ok (.getfield 87, 3) := by decide +kernel
theorem dX7_decides_126 : decode cX7_decides 126 = .ok (.ifCond .le 8, 3) := by decide +kernel
theorem dX7_decides_129 : decode cX7_decides 129 = .ok (.bipush 6, 2) := by decide +kernel
theorem dX7_decides_131 : decode cX7_decides 131 = .ok (.goto 4, 3) := by decide +kernel
theorem dX7_decides_134 : decode cX7_decides 134 = .ok (.iconst 0, 1) := by decide +kernel
theorem dX7_decides_135 : decode cX7_decides 135 = .ok (.aload_n 0, 1) := by decide +kernel
theorem dX7_decides_136 : decode cX7_decides 136 = .ok (.getfield 87, 3) := by decide +kernel
theorem dX7_decides_139 : decode cX7_decides 139 = .ok (.ifCond .le 7, 3) := by decide +kernel
theorem dX7_decides_142 : decode cX7_decides 142 = .ok (.iconst 3, 1) := by decide +kernel
theorem dX7_decides_143 : decode cX7_decides 143 = .ok (.goto 4, 3) := by decide +kernel
theorem dX7_decides_146 : decode cX7_decides 146 = .ok (.iconst 0, 1) := by decide +kernel
theorem dX7_decides_147 : decode cX7_decides 147 = .ok (.invokevirtual 109, 3) := by decide +kernel
theorem dX7_decides_150 : decode cX7_decides 150 = .ok (.return_, 1) := by decide +kernel
set_option maxRecDepth 20000 in
theorem ggX7_purges_X7_begins : GoodIn wsX7_purges wsX7_begins := goodIn_r _ [11, 12, 13, 5, 3, 14, 18, 19, 20, 21, 22, 23, 24, 25, 26, 27, 28, 29, 30, 31, 32, 33, 34, 35, 36, 37, 38, 39, 40, 41, 42, 43, 44, 45, 46, 47, 48, 49, 50, 51, 52] (by decide +kernel) (by decide +kernel)
set_option maxRecDepth 20000 in
theorem gX7_purges_X7_begins : GoodIn wsX7_purges (wsV RX7 109 RX7 yX7_begins wsX7_begins) := goodIn_app (goodIn_of _ (by decide +kernel)) ggX7_purges_X7_begins
set_option maxRecDepth 20000 in
theorem ggX7_purges_X7_has : GoodIn wsX7_purges wsX7_has := goodIn_r _ [17] (by decide +kernel) (by decide +kernel)
set_option maxRecDepth 20000 in
theorem gX7_purges_X7_has : GoodIn wsX7_purges (va_wsS RX7 83 yX7_has wsX7_has) := goodIn_app (goodIn_of _ (by decide +kernel)) ggX7_purges_X7_has
theorem dX7_purges_0 : decode cX7_purges 0 = .ok (.iload_n 2, 1) := by decide +kernel
theorem dX7_purges_1 : decode cX7_purges 1 = .ok (.ifCond .ne 12, 3) := by decide +kernel
theorem dX7_purges_4 : decode cX7_purges 4 = .ok (.aload_n 0, 1) := by decide +kernel
theorem dX7_purges_5 : decode cX7_purges 5 = .ok (.iconst 0, 1) := by decide +kernel
theorem dX7_purges_6 : decode cX7_purges 6 = .ok (.iconst 0, 1) := by decide +kernel
theorem dX7_purges_7 : decode cX7_purges 7 = .ok (.invokevirtual 109, 3) := by decide +kernel
theorem dX7_purges_10 : decode cX7_purges 10 = .ok (.goto 95, 3) := by decide +kernel
theorem dX7_purges_13 : decode cX7_purges 13 = .ok (.aload_n 0, 1) := by decide +kernel
theorem dX7_purges_14 : decode cX7_purges 14 = .ok (.getfield 87, 3) := by decide +kernel
theorem dX7_purges_17 : decode cX7_purges 17 = .ok (.ifCond .le 13, 3) := by decide +kernel
theorem dX7_purges_20 : decode cX7_purges 20 = .ok (.aload_n 0, 1) := by decide +kernel
theorem dX7_purges_21 : decode cX7_purges 21 = .ok (.bipush 6, 2) := by decide +kernel
theorem dX7_purges_23 : decode cX7_purges 23 = .ok (.iconst 3, 1) := by decide +kernel
theorem dX7_purges_24 : decode cX7_purges 24 = .ok (.invokevirtual 109, 3) := by decide +kernel
theorem dX7_purges_27 : decode cX7_purges 27 = .ok (.goto 78, 3) := by decide +kernel
theorem dX7_purges_30 : decode cX7_purges 30 = .ok (.aload_n 0, 1) := by decide +kernel
theorem dX7_purges_31 : decode cX7_purges 31 = .ok (.iload_n 1, 1) := by decide +kernel
theorem dX7_purges_32 : decode cX7_purges 32 = .ok (.iconst 1, 1) := by decide +kernel
theorem dX7_purges_33 : decode cX7_purges 33 = .ok (.invokestatic 83, 3) := by decide +kernel
theorem dX7_purges_36 : decode cX7_purges 36 = .ok (.ifCond .eq 24, 3) := by decide +kernel
theorem dX7_purges_39 : decode cX7_purges 39 = .ok (.aload_n 0, 1) := by decide +kernel
theorem dX7_purges_40 : decode cX7_purges 40 = .ok (.getfield 93, 3) := by decide +kernel
theorem dX7_purges_43 : decode cX7_purges 43 = .ok (.bipush 70, 2) := by decide +kernel
theorem dX7_purges_45 : decode cX7_purges 45 = .ok (.if_icmp .lt 15, 3) := by decide +kernel
theorem dX7_purges_48 : decode cX7_purges 48 = .ok (.aload_n 0, 1) := by decide +kernel
theorem dX7_purges_49 : decode cX7_purges 49 = .ok (.getfield 106, 3) := by decide +kernel
theorem dX7_purges_52 : decode cX7_purges 52 = .ok (.aload_n 0, 1) := by decide +kernel
theorem dX7_purges_53 : decode cX7_purges 53 = .ok (.getfield 93, 3) := by decide +kernel
theorem dX7_purges_56 : decode cX7_purges 56 = .ok (.iadd, 1) := by decide +kernel
theorem dX7_purges_57 : decode cX7_purges 57 = .ok (.goto 4, 3) := by decide +kernel
theorem dX7_purges_60 : decode cX7_purges 60 = .ok (.iconst 0, 1) := by decide +kernel
theorem dX7_purges_61 : decode cX7_purges 61 = .ok (.putfield 106, 3) := by decide +kernel
theorem dX7_purges_64 : decode cX7_purges 64 = .ok (.aload_n 0, 1) := by decide +kernel
theorem dX7_purges_65 : decode cX7_purges 65 = .ok (.getfield 106, 3) := by decide +kernel
theorem dX7_purges_68 : decode cX7_purges 68 = .ok (.iconst 4, 1) := by decide +kernel
theorem dX7_purges_69 : decode cX7_purges 69 = .ok (.aload_n 0, 1) := by decide +kernel
theorem dX7_purges_70 : decode cX7_purges 70 = .ok (.getfield 34, 3) := by decide +kernel
theorem dX7_purges_73 : decode cX7_purges 73 = .ok (.imul, 1) := by decide +kernel
theorem dX7_purges_74 : decode cX7_purges 74 = .ok (.if_icmp .lt 12, 3) := by decide +kernel
theorem dX7_purges_77 : decode cX7_purges 77 = .ok (.aload_n 0, 1) := by decide +kernel
theorem dX7_purges_78 : decode cX7_purges 78 = .ok (.iconst 2, 1) := by decide +kernel
theorem dX7_purges_79 : decode cX7_purges 79 = .ok (.iconst 0, 1) := by decide +kernel
theorem dX7_purges_80 : decode cX7_purges 80 = .ok (.invokevirtual 109, 3) := by decide +kernel
theorem dX7_purges_83 : decode cX7_purges 83 = .ok (.goto 22, 3) := by decide +kernel
theorem dX7_purges_86 : decode cX7_purges 86 = .ok (.aload_n 0, 1) := by decide +kernel
theorem dX7_purges_87 : decode cX7_purges 87 = .ok (.getfield 103, 3) := by decide +kernel
theorem dX7_purges_90 : decode cX7_purges 90 = .ok (.aload_n 0, 1) := by decide +kernel
theorem dX7_purges_91 : decode cX7_purges 91 = .ok (.getfield 13, 3) := by decide +kernel
theorem dX7_purges_94 : decode cX7_purges 94 = .ok (.if_icmp .lt 11, 3) := by decide +kernel
theorem dX7_purges_97 : decode cX7_purges 97 = .ok (.aload_n 0, 1) := by decide +kernel
theorem dX7_purges_98 : decode cX7_purges 98 = .ok (.bipush 6, 2) := by decide +kernel
theorem dX7_purges_100 : decode cX7_purges 100 = .ok (.bipush 7, 2) := by decide +kernel
theorem dX7_purges_102 : decode cX7_purges 102 = .ok (.invokevirtual 109, 3) := by decide +kernel
theorem dX7_purges_105 : decode cX7_purges 105 = .ok (.return_, 1) := by decide +kernel
set_option maxRecDepth 20000 in
theorem ggX7_lights_X7_lacks : GoodIn wsX7_lights wsX7_lacks := goodIn_r _ [10, 11, 12, 9, 13, 14, 15, 16, 17, 1, 18, 3, 19, 20, 21, 22, 23, 24, 25, 26, 27, 28, 29, 30, 31, 32, 33, 34, 35, 36, 37, 38, 39, 40, 41, 42, 43, 44, 45, 46, 47, 48, 49, 50, 51, 52, 53, 54, 55] (by decide +kernel) (by decide +kernel)
set_option maxRecDepth 20000 in
theorem gX7_lights_X7_lacks : GoodIn wsX7_lights (wsV RX7 123 RX7 yX7_lacks wsX7_lacks) := goodIn_app (goodIn_of _ (by decide +kernel)) ggX7_lights_X7_lacks
set_option maxRecDepth 20000 in
theorem ggX7_lights_X7_begins : GoodIn wsX7_lights wsX7_begins := goodIn_r _ [17, 1, 18, 3, 19, 20, 21, 22, 23, 24, 25, 26, 27, 28, 29, 30, 31, 32, 33, 34, 35, 36, 37, 38, 39, 40, 41, 42, 43, 44, 45, 46, 47, 48, 49, 50, 51, 52, 53, 54, 55] (by decide +kernel) (by decide +kernel)
set_option maxRecDepth 20000 in
theorem gX7_lights_X7_begins : GoodIn wsX7_lights (wsV RX7 109 RX7 yX7_begins wsX7_begins) := goodIn_app (goodIn_of _ (by decide +kernel)) ggX7_lights_X7_begins
set_option maxRecDepth 20000 in
theorem ggX7_lights_X7_has : GoodIn wsX7_lights wsX7_has := goodIn_r _ [13] (by decide +kernel) (by decide +kernel)
set_option maxRecDepth 20000 in
theorem gX7_lights_X7_has : GoodIn wsX7_lights (va_wsS RX7 83 yX7_has wsX7_has) := goodIn_app (goodIn_of _ (by decide +kernel)) ggX7_lights_X7_has
theorem dX7_lights_0 : decode cX7_lights 0 = .ok (.aload_n 0, 1) := by decide +kernel
theorem dX7_lights_1 : decode cX7_lights 1 = .ok (.iload_n 1, 1) := by decide +kernel
theorem dX7_lights_2 : decode cX7_lights 2 = .ok (.invokevirtual 123, 3) := by decide +kernel
theorem dX7_lights_5 : decode cX7_lights 5 = .ok (.ifCond .eq 4, 3) := by decide +kernel
theorem dX7_lights_8 : decode cX7_lights 8 = .ok (.return_, 1) := by decide +kernel
theorem dX7_lights_9 : decode cX7_lights 9 = .ok (.aload_n 0, 1) := by decide +kernel
theorem dX7_lights_10 : decode cX7_lights 10 = .ok (.getfield 77, 3) := by decide +kernel
theorem dX7_lights_13 : decode cX7_lights 13 = .ok (.iconst 2, 1) := by decide +kernel
theorem dX7_lights_14 : decode cX7_lights 14 = .ok (.if_icmp .ne 7, 3) := by decide +kernel
theorem dX7_lights_17 : decode cX7_lights 17 = .ok (.iconst 1, 1) := by decide +kernel
theorem dX7_lights_18 : decode cX7_lights 18 = .ok (.goto 4, 3) := by decide +kernel
theorem dX7_lights_21 : decode cX7_lights 21 = .ok (.iconst 0, 1) := by decide +kernel
theorem dX7_lights_22 : decode cX7_lights 22 = .ok (.istore_n 3, 1) := by decide +kernel
theorem dX7_lights_23 : decode cX7_lights 23 = .ok (.iload_n 2, 1) := by decide +kernel
theorem dX7_lights_24 : decode cX7_lights 24 = .ok (.ifCond .ne 12, 3) := by decide +kernel
theorem dX7_lights_27 : decode cX7_lights 27 = .ok (.aload_n 0, 1) := by decide +kernel
theorem dX7_lights_28 : decode cX7_lights 28 = .ok (.iconst 5, 1) := by decide +kernel
theorem dX7_lights_29 : decode cX7_lights 29 = .ok (.iconst 0, 1) := by decide +kernel
theorem dX7_lights_30 : decode cX7_lights 30 = .ok (.invokevirtual 109, 3) := by decide +kernel
theorem dX7_lights_33 : decode cX7_lights 33 = .ok (.goto 76, 3) := by decide +kernel
theorem dX7_lights_36 : decode cX7_lights 36 = .ok (.aload_n 0, 1) := by decide +kernel
theorem dX7_lights_37 : decode cX7_lights 37 = .ok (.getfield 87, 3) := by decide +kernel
theorem dX7_lights_40 : decode cX7_lights 40 = .ok (.iload_n 3, 1) := by decide +kernel
theorem dX7_lights_41 : decode cX7_lights 41 = .ok (.ifCond .eq 7, 3) := by decide +kernel
theorem dX7_lights_44 : decode cX7_lights 44 = .ok (.iconst 0, 1) := by decide +kernel
theorem dX7_lights_45 : decode cX7_lights 45 = .ok (.goto 4, 3) := by decide +kernel
theorem dX7_lights_48 : decode cX7_lights 48 = .ok (.iconst 1, 1) := by decide +kernel
theorem dX7_lights_49 : decode cX7_lights 49 = .ok (.invokestatic 83, 3) := by decide +kernel
theorem dX7_lights_52 : decode cX7_lights 52 = .ok (.ifCond .eq 20, 3) := by decide +kernel
theorem dX7_lights_55 : decode cX7_lights 55 = .ok (.aload_n 0, 1) := by decide +kernel
theorem dX7_lights_56 : decode cX7_lights 56 = .ok (.iload_n 3, 1) := by decide +kernel
theorem dX7_lights_57 : decode cX7_lights 57 = .ok (.ifCond .eq 7, 3) := by decide +kernel
theorem dX7_lights_60 : decode cX7_lights 60 = .ok (.iconst 3, 1) := by decide +kernel
theorem dX7_lights_61 : decode cX7_lights 61 = .ok (.goto 4, 3) := by decide +kernel
theorem dX7_lights_64 : decode cX7_lights 64 = .ok (.iconst 4, 1) := by decide +kernel
theorem dX7_lights_65 : decode cX7_lights 65 = .ok (.iconst 0, 1) := by decide +kernel
theorem dX7_lights_66 : decode cX7_lights 66 = .ok (.invokevirtual 109, 3) := by decide +kernel
theorem dX7_lights_69 : decode cX7_lights 69 = .ok (.goto 40, 3) := by decide +kernel
theorem dX7_lights_72 : decode cX7_lights 72 = .ok (.aload_n 0, 1) := by decide +kernel
theorem dX7_lights_73 : decode cX7_lights 73 = .ok (.getfield 103, 3) := by decide +kernel
theorem dX7_lights_76 : decode cX7_lights 76 = .ok (.iload_n 3, 1) := by decide +kernel
theorem dX7_lights_77 : decode cX7_lights 77 = .ok (.ifCond .eq 10, 3) := by decide +kernel
theorem dX7_lights_80 : decode cX7_lights 80 = .ok (.aload_n 0, 1) := by decide +kernel
theorem dX7_lights_81 : decode cX7_lights 81 = .ok (.getfield 16, 3) := by decide +kernel
theorem dX7_lights_84 : decode cX7_lights 84 = .ok (.goto 7, 3) := by decide +kernel
theorem dX7_lights_87 : decode cX7_lights 87 = .ok (.aload_n 0, 1) := by decide +kernel
theorem dX7_lights_88 : decode cX7_lights 88 = .ok (.getfield 19, 3) := by decide +kernel
theorem dX7_lights_91 : decode cX7_lights 91 = .ok (.if_icmp .lt 18, 3) := by decide +kernel
theorem dX7_lights_94 : decode cX7_lights 94 = .ok (.aload_n 0, 1) := by decide +kernel
theorem dX7_lights_95 : decode cX7_lights 95 = .ok (.bipush 6, 2) := by decide +kernel
theorem dX7_lights_97 : decode cX7_lights 97 = .ok (.iload_n 3, 1) := by decide +kernel
theorem dX7_lights_98 : decode cX7_lights 98 = .ok (.ifCond .eq 7, 3) := by decide +kernel
theorem dX7_lights_101 : decode cX7_lights 101 = .ok (.iconst 4, 1) := by decide +kernel
theorem dX7_lights_102 : decode cX7_lights 102 = .ok (.goto 4, 3) := by decide +kernel
theorem dX7_lights_105 : decode cX7_lights 105 = .ok (.iconst 5, 1) := by decide +kernel
theorem dX7_lights_106 : decode cX7_lights 106 = .ok (.invokevirtual 109, 3) := by decide +kernel
theorem dX7_lights_109 : decode cX7_lights 109 = .ok (.return_, 1) := by decide +kernel
set_option maxRecDepth 20000 in
theorem ggX7_runs_X7_lacks : GoodIn wsX7_runs wsX7_lacks := goodIn_r _ [8, 9, 10, 7, 11, 12, 13, 14, 15, 16, 17, 2, 18, 19, 20, 21, 22, 23, 24, 25, 26, 27, 28, 29, 30, 31, 32, 33, 34, 35, 36, 37, 38, 39, 40, 41, 42, 43, 44, 45, 46, 47, 48, 49, 50, 51, 52, 53, 54] (by decide +kernel) (by decide +kernel)
set_option maxRecDepth 20000 in
theorem gX7_runs_X7_lacks : GoodIn wsX7_runs (wsV RX7 123 RX7 yX7_lacks wsX7_lacks) := goodIn_app (goodIn_of _ (by decide +kernel)) ggX7_runs_X7_lacks
set_option maxRecDepth 20000 in
theorem ggX7_runs_X7_has : GoodIn wsX7_runs wsX7_has := goodIn_r _ [11] (by decide +kernel) (by decide +kernel)
set_option maxRecDepth 20000 in
theorem gX7_runs_X7_has : GoodIn wsX7_runs (va_wsS RX7 83 yX7_has wsX7_has) := goodIn_app (goodIn_of _ (by decide +kernel)) ggX7_runs_X7_has
set_option maxRecDepth 20000 in
theorem ggX7_runs_X7_begins : GoodIn wsX7_runs wsX7_begins := goodIn_r _ [15, 16, 17, 2, 18, 19, 20, 21, 22, 23, 24, 25, 26, 27, 28, 29, 30, 31, 32, 33, 34, 35, 36, 37, 38, 39, 40, 41, 42, 43, 44, 45, 46, 47, 48, 49, 50, 51, 52, 53, 54] (by decide +kernel) (by decide +kernel)
set_option maxRecDepth 20000 in
theorem gX7_runs_X7_begins : GoodIn wsX7_runs (wsV RX7 109 RX7 yX7_begins wsX7_begins) := goodIn_app (goodIn_of _ (by decide +kernel)) ggX7_runs_X7_begins
theorem dX7_runs_0 : decode cX7_runs 0 = .ok (.aload_n 0, 1) := by decide +kernel
theorem dX7_runs_1 : decode cX7_runs 1 = .ok (.iload_n 1, 1) := by decide +kernel
theorem dX7_runs_2 : decode cX7_runs 2 = .ok (.invokevirtual 123, 3) := by decide +kernel
theorem dX7_runs_5 : decode cX7_runs 5 = .ok (.ifCond .eq 4, 3) := by decide +kernel
theorem dX7_runs_8 : decode cX7_runs 8 = .ok (.return_, 1) := by decide +kernel
theorem dX7_runs_9 : decode cX7_runs 9 = .ok (.aload_n 0, 1) := by decide +kernel
theorem dX7_runs_10 : decode cX7_runs 10 = .ok (.getfield 87, 3) := by decide +kernel
theorem dX7_runs_13 : decode cX7_runs 13 = .ok (.iconst 1, 1) := by decide +kernel
theorem dX7_runs_14 : decode cX7_runs 14 = .ok (.invokestatic 83, 3) := by decide +kernel
theorem dX7_runs_17 : decode cX7_runs 17 = .ok (.ifCond .ne 14, 3) := by decide +kernel
theorem dX7_runs_20 : decode cX7_runs 20 = .ok (.aload_n 0, 1) := by decide +kernel
theorem dX7_runs_21 : decode cX7_runs 21 = .ok (.bipush 6, 2) := by decide +kernel
theorem dX7_runs_23 : decode cX7_runs 23 = .ok (.bipush 6, 2) := by decide +kernel
theorem dX7_runs_25 : decode cX7_runs 25 = .ok (.invokevirtual 109, 3) := by decide +kernel
theorem dX7_runs_28 : decode cX7_runs 28 = .ok (.goto 44, 3) := by decide +kernel
theorem dX7_runs_31 : decode cX7_runs 31 = .ok (.aload_n 0, 1) := by decide +kernel
theorem dX7_runs_32 : decode cX7_runs 32 = .ok (.getfield 103, 3) := by decide +kernel
theorem dX7_runs_35 : decode cX7_runs 35 = .ok (.aload_n 0, 1) := by decide +kernel
theorem dX7_runs_36 : decode cX7_runs 36 = .ok (.getfield 31, 3) := by decide +kernel
theorem dX7_runs_39 : decode cX7_runs 39 = .ok (.irem, 1) := by decide +kernel
theorem dX7_runs_40 : decode cX7_runs 40 = .ok (.ifCond .ne 22, 3) := by decide +kernel
theorem dX7_runs_43 : decode cX7_runs 43 = .ok (.iload_n 1, 1) := by decide +kernel
theorem dX7_runs_44 : decode cX7_runs 44 = .ok (.iconst 5, 1) := by decide +kernel
theorem dX7_runs_45 : decode cX7_runs 45 = .ok (.invokestatic 83, 3) := by decide +kernel
theorem dX7_runs_48 : decode cX7_runs 48 = .ok (.ifCond .ne 14, 3) := by decide +kernel
theorem dX7_runs_51 : decode cX7_runs 51 = .ok (.aload_n 0, 1) := by decide +kernel
theorem dX7_runs_52 : decode cX7_runs 52 = .ok (.bipush 6, 2) := by decide +kernel
theorem dX7_runs_54 : decode cX7_runs 54 = .ok (.bipush 8, 2) := by decide +kernel
theorem dX7_runs_56 : decode cX7_runs 56 = .ok (.invokevirtual 109, 3) := by decide +kernel
theorem dX7_runs_59 : decode cX7_runs 59 = .ok (.goto 13, 3) := by decide +kernel
theorem dX7_runs_62 : decode cX7_runs 62 = .ok (.iload_n 2, 1) := by decide +kernel
theorem dX7_runs_63 : decode cX7_runs 63 = .ok (.ifCond .ne 9, 3) := by decide +kernel
theorem dX7_runs_66 : decode cX7_runs 66 = .ok (.aload_n 0, 1) := by decide +kernel
theorem dX7_runs_67 : decode cX7_runs 67 = .ok (.iconst 5, 1) := by decide +kernel
theorem dX7_runs_68 : decode cX7_runs 68 = .ok (.iconst 0, 1) := by decide +kernel
theorem dX7_runs_69 : decode cX7_runs 69 = .ok (.invokevirtual 109, 3) := by decide +kernel
theorem dX7_runs_72 : decode cX7_runs 72 = .ok (.return_, 1) := by decide +kernel
set_option maxRecDepth 20000 in
theorem ggX7_plays_X7_looks : GoodIn wsX7_plays wsX7_looks := goodIn_r _ [8, 9, 10, 11, 12, 13, 7, 14, 60, 61, 62, 63, 64, 65, 66, 67, 68, 69, 70, 71, 72, 73, 74, 75, 76, 77, 78, 79, 80, 81, 82, 83, 84, 85, 86, 87, 88, 89, 90, 91, 92, 93, 94] (by decide +kernel) (by decide +kernel)
set_option maxRecDepth 20000 in
theorem gX7_plays_X7_looks : GoodIn wsX7_plays (wsV RX7 130 RX7 yX7_looks wsX7_looks) := goodIn_app (goodIn_of _ (by decide +kernel)) ggX7_plays_X7_looks
set_option maxRecDepth 20000 in
theorem ggX7_plays_X7_goes : GoodIn wsX7_plays wsX7_goes := goodIn_r _ [18, 19, 20, 21, 22, 23, 24, 25, 26, 7, 27, 60, 61, 62, 63, 64, 65, 66, 67, 68, 69, 70, 71, 72, 73, 74, 75, 76, 77, 78, 79, 80, 81, 82, 83, 84, 85, 86, 87, 88, 89, 90, 91, 92, 93, 94] (by decide +kernel) (by decide +kernel)
set_option maxRecDepth 20000 in
theorem gX7_plays_X7_goes : GoodIn wsX7_plays (wsV RX7 136 RX7 yX7_goes wsX7_goes) := goodIn_app (goodIn_of _ (by decide +kernel)) ggX7_plays_X7_goes
set_option maxRecDepth 20000 in
theorem ggX7_plays_X7_decides : GoodIn wsX7_plays wsX7_decides := goodIn_r _ [31, 19, 9, 3, 32, 12, 13, 7, 14, 33, 34, 35, 36, 37, 38, 21, 39, 40, 41, 42, 22, 43, 44, 45, 46, 47, 48, 49, 50, 51, 52, 53, 54, 55, 56, 57, 58, 59, 60, 61, 62, 63, 64, 65, 66, 67, 68, 69, 70, 71, 72, 73, 74, 75, 76, 77, 78, 79, 80, 81, 82, 83, 84, 85, 86, 87, 88, 89, 90, 91, 92, 93, 94] (by decide +kernel) (by decide +kernel)
set_option maxRecDepth 20000 in
theorem gX7_plays_X7_decides : GoodIn wsX7_plays (wsV RX7 139 RX7 yX7_decides wsX7_decides) := goodIn_app (goodIn_of _ (by decide +kernel)) ggX7_plays_X7_decides
theorem dX7_plays_0 : decode cX7_plays 0 = .ok (.aload_n 0, 1) := by decide +kernel
theorem dX7_plays_1 : decode cX7_plays 1 = .ok (.aload_n 0, 1) := by decide +kernel
theorem dX7_plays_2 : decode cX7_plays 2 = .ok (.iload_n 1, 1) := by decide +kernel
theorem dX7_plays_3 : decode cX7_plays 3 = .ok (.iconst 0, 1) := by decide +kernel
theorem dX7_plays_4 : decode cX7_plays 4 = .ok (.aload_n 0, 1) := by decide +kernel
theorem dX7_plays_5 : decode cX7_plays 5 = .ok (.getfield 127, 3) := by decide +kernel
theorem dX7_plays_8 : decode cX7_plays 8 = .ok (.invokevirtual 130, 3) := by decide +kernel
theorem dX7_plays_11 : decode cX7_plays 11 = .ok (.putfield 127, 3) := by decide +kernel
theorem dX7_plays_14 : decode cX7_plays 14 = .ok (.aload_n 0, 1) := by decide +kernel
theorem dX7_plays_15 : decode cX7_plays 15 = .ok (.aload_n 0, 1) := by decide +kernel
theorem dX7_plays_16 : decode cX7_plays 16 = .ok (.iload_n 1, 1) := by decide +kernel
theorem dX7_plays_17 : decode cX7_plays 17 = .ok (.iconst 1, 1) := by decide +kernel
theorem dX7_plays_18 : decode cX7_plays 18 = .ok (.aload_n 0, 1) := by decide +kernel
theorem dX7_plays_19 : decode cX7_plays 19 = .ok (.getfield 133, 3) := by decide +kernel
theorem dX7_plays_22 : decode cX7_plays 22 = .ok (.invokevirtual 130, 3) := by decide +kernel
theorem dX7_plays_25 : decode cX7_plays 25 = .ok (.putfield 133, 3) := by decide +kernel
theorem dX7_plays_28 : decode cX7_plays 28 = .ok (.aload_n 0, 1) := by decide +kernel
theorem dX7_plays_29 : decode cX7_plays 29 = .ok (.invokevirtual 136, 3) := by decide +kernel
theorem dX7_plays_32 : decode cX7_plays 32 = .ok (.aload_n 0, 1) := by decide +kernel
theorem dX7_plays_33 : decode cX7_plays 33 = .ok (.dup, 1) := by decide +kernel
theorem dX7_plays_34 : decode cX7_plays 34 = .ok (.getfield 103, 3) := by decide +kernel
theorem dX7_plays_37 : decode cX7_plays 37 = .ok (.iconst 1, 1) := by decide +kernel
theorem dX7_plays_38 : decode cX7_plays 38 = .ok (.iadd, 1) := by decide +kernel
theorem dX7_plays_39 : decode cX7_plays 39 = .ok (.putfield 103, 3) := by decide +kernel
theorem dX7_plays_42 : decode cX7_plays 42 = .ok (.aload_n 0, 1) := by decide +kernel
theorem dX7_plays_43 : decode cX7_plays 43 = .ok (.iload_n 1, 1) := by decide +kernel
theorem dX7_plays_44 : decode cX7_plays 44 = .ok (.invokevirtual 139, 3) := by decide +kernel
theorem dX7_plays_47 : decode cX7_plays 47 = .ok (.return_, 1) := by decide +kernel
theorem dX7_notes_0 : decode cX7_notes 0 = .ok (.aload_n 0, 1) := by decide +kernel
theorem dX7_notes_1 : decode cX7_notes 1 = .ok (.getfield 43, 3) := by decide +kernel
theorem dX7_notes_4 : decode cX7_notes 4 = .ok (.aload_n 0, 1) := by decide +kernel
theorem dX7_notes_5 : decode cX7_notes 5 = .ok (.getfield 143, 3) := by decide +kernel
theorem dX7_notes_8 : decode cX7_notes 8 = .ok (.bipush 100, 2) := by decide +kernel
theorem dX7_notes_10 : decode cX7_notes 10 = .ok (.irem, 1) := by decide +kernel
theorem dX7_notes_11 : decode cX7_notes 11 = .ok (.aload_n 0, 1) := by decide +kernel
theorem dX7_notes_12 : decode cX7_notes 12 = .ok (.getfield 146, 3) := by decide +kernel
theorem dX7_notes_15 : decode cX7_notes 15 = .ok (.iastore, 1) := by decide +kernel
theorem dX7_notes_16 : decode cX7_notes 16 = .ok (.aload_n 0, 1) := by decide +kernel
theorem dX7_notes_17 : decode cX7_notes 17 = .ok (.getfield 47, 3) := by decide +kernel
theorem dX7_notes_20 : decode cX7_notes 20 = .ok (.aload_n 0, 1) := by decide +kernel
theorem dX7_notes_21 : decode cX7_notes 21 = .ok (.getfield 143, 3) := by decide +kernel
theorem dX7_notes_24 : decode cX7_notes 24 = .ok (.bipush 100, 2) := by decide +kernel
theorem dX7_notes_26 : decode cX7_notes 26 = .ok (.irem, 1) := by decide +kernel
theorem dX7_notes_27 : decode cX7_notes 27 = .ok (.aload_n 0, 1) := by decide +kernel
theorem dX7_notes_28 : decode cX7_notes 28 = .ok (.getfield 77, 3) := by decide +kernel
theorem dX7_notes_31 : decode cX7_notes 31 = .ok (.iastore, 1) := by decide +kernel
theorem dX7_notes_32 : decode cX7_notes 32 = .ok (.aload_n 0, 1) := by decide +kernel
theorem dX7_notes_33 : decode cX7_notes 33 = .ok (.getfield 50, 3) := by decide +kernel
theorem dX7_notes_36 : decode cX7_notes 36 = .ok (.aload_n 0, 1) := by decide +kernel
theorem dX7_notes_37 : decode cX7_notes 37 = .ok (.getfield 143, 3) := by decide +kernel
theorem dX7_notes_40 : decode cX7_notes 40 = .ok (.bipush 100, 2) := by decide +kernel
theorem dX7_notes_42 : decode cX7_notes 42 = .ok (.irem, 1) := by decide +kernel
theorem dX7_notes_43 : decode cX7_notes 43 = .ok (.aload_n 0, 1) := by decide +kernel
theorem dX7_notes_44 : decode cX7_notes 44 = .ok (.getfield 100, 3) := by decide +kernel
theorem dX7_notes_47 : decode cX7_notes 47 = .ok (.iastore, 1) := by decide +kernel
theorem dX7_notes_48 : decode cX7_notes 48 = .ok (.aload_n 0, 1) := by decide +kernel
theorem dX7_notes_49 : decode cX7_notes 49 = .ok (.dup, 1) := by decide +kernel
theorem dX7_notes_50 : decode cX7_notes 50 = .ok (.getfield 143, 3) := by decide +kernel
theorem dX7_notes_53 : decode cX7_notes 53 = .ok (.iconst 1, 1) := by decide +kernel
theorem dX7_notes_54 : decode cX7_notes 54 = .ok (.iadd, 1) := by decide +kernel
theorem dX7_notes_55 : decode cX7_notes 55 = .ok (.putfield 143, 3) := by decide +kernel
theorem dX7_notes_58 : decode cX7_notes 58 = .ok (.return_, 1) := by decide +kernel
set_option maxRecDepth 20000 in
theorem ggX7_poll_X7_in : GoodIn wsX7_poll wsX7_in := goodIn_r _ [11] (by decide +kernel) (by decide +kernel)
set_option maxRecDepth 20000 in
theorem gX7_poll_X7_in : GoodIn wsX7_poll (va_wsS RX7 66 yX7_in wsX7_in) := goodIn_app (goodIn_of _ (by decide +kernel)) ggX7_poll_X7_in
set_option maxRecDepth 20000 in
theorem ggX7_poll_X7_asks : GoodIn wsX7_poll wsX7_asks := goodIn_r _ [15, 16, 84, 85, 86, 87, 88, 89, 90, 91, 92, 93, 94, 95, 96, 97, 98, 99, 100, 101, 102, 103, 104, 105, 106, 107, 108, 109, 110, 111, 112, 113, 114, 115, 116, 117, 118] (by decide +kernel) (by decide +kernel)
set_option maxRecDepth 20000 in
theorem gX7_poll_X7_asks : GoodIn wsX7_poll (wsV RX7 70 RX7 yX7_asks wsX7_asks) := goodIn_app (goodIn_of _ (by decide +kernel)) ggX7_poll_X7_asks
set_option maxRecDepth 20000 in
theorem ggX7_poll_X7_plays : GoodIn wsX7_poll wsX7_plays := goodIn_r _ [20, 21, 22, 23, 24, 25, 26, 10, 27, 5, 28, 29, 30, 31, 32, 33, 34, 35, 36, 2, 37, 38, 39, 40, 41, 42, 43, 44, 45, 46, 47, 48, 49, 50, 51, 52, 53, 54, 55, 56, 57, 58, 59, 60, 61, 62, 63, 64, 65, 66, 67, 68, 69, 70, 71, 72, 73, 74, 75, 76, 84, 85, 86, 87, 88, 89, 90, 91, 92, 93, 94, 95, 96, 97, 98, 99, 100, 101, 102, 103, 104, 105, 106, 107, 108, 109, 110, 111, 112, 113, 114, 115, 116, 117, 118] (by decide +kernel) (by decide +kernel)
set_option maxRecDepth 20000 in
theorem gX7_poll_X7_plays : GoodIn wsX7_poll (wsV RX7 149 RX7 yX7_plays wsX7_plays) := goodIn_app (goodIn_of _ (by decide +kernel)) ggX7_poll_X7_plays
set_option maxRecDepth 20000 in
theorem ggX7_poll_X7_notes : GoodIn wsX7_poll wsX7_notes := goodIn_r _ [80, 81, 1, 4, 82, 2, 83, 54, 84, 85, 86, 87, 88, 89, 90, 91, 92, 93, 94, 95, 96, 97, 98, 99, 100, 101, 102, 103, 104, 105, 106, 107, 108, 109, 110, 111, 112, 113, 114, 115, 116, 117, 118] (by decide +kernel) (by decide +kernel)
set_option maxRecDepth 20000 in
theorem gX7_poll_X7_notes : GoodIn wsX7_poll (wsV RX7 152 RX7 yX7_notes wsX7_notes) := goodIn_app (goodIn_of _ (by decide +kernel)) ggX7_poll_X7_notes
theorem dX7_poll_0 : decode cX7_poll 0 = .ok (.aload_n 0, 1) := by decide +kernel
theorem dX7_poll_1 : decode cX7_poll 1 = .ok (.iload_n 1, 1) := by decide +kernel
theorem dX7_poll_2 : decode cX7_poll 2 = .ok (.iconst 1, 1) := by decide +kernel
theorem dX7_poll_3 : decode cX7_poll 3 = .ok (.sipush 200, 3) := by decide +kernel
theorem dX7_poll_6 : decode cX7_poll 6 = .ok (.invokestatic 66, 3) := by decide +kernel
theorem dX7_poll_9 : decode cX7_poll 9 = .ok (.invokevirtual 70, 3) := by decide +kernel
theorem dX7_poll_12 : decode cX7_poll 12 = .ok (.ifCond .ne 5, 3) := by decide +kernel
theorem dX7_poll_15 : decode cX7_poll 15 = .ok (.iconst 0, 1) := by decide +kernel
theorem dX7_poll_16 : decode cX7_poll 16 = .ok (.ireturn, 1) := by decide +kernel
theorem dX7_poll_17 : decode cX7_poll 17 = .ok (.aload_n 0, 1) := by decide +kernel
theorem dX7_poll_18 : decode cX7_poll 18 = .ok (.getfield 143, 3) := by decide +kernel
theorem dX7_poll_21 : decode cX7_poll 21 = .ok (.istore_n 2, 1) := by decide +kernel
theorem dX7_poll_22 : decode cX7_poll 22 = .ok (.iconst 0, 1) := by decide +kernel
theorem dX7_poll_23 : decode cX7_poll 23 = .ok (.istore_n 3, 1) := by decide +kernel
theorem dX7_poll_24 : decode cX7_poll 24 = .ok (.iload_n 3, 1) := by decide +kernel
theorem dX7_poll_25 : decode cX7_poll 25 = .ok (.iload_n 1, 1) := by decide +kernel
theorem dX7_poll_26 : decode cX7_poll 26 = .ok (.if_icmp .ge 103, 3) := by decide +kernel
theorem dX7_poll_29 : decode cX7_poll 29 = .ok (.aload_n 0, 1) := by decide +kernel
theorem dX7_poll_30 : decode cX7_poll 30 = .ok (.getfield 77, 3) := by decide +kernel
theorem dX7_poll_33 : decode cX7_poll 33 = .ok (.istore 4, 2) := by decide +kernel
theorem dX7_poll_35 : decode cX7_poll 35 = .ok (.aload_n 0, 1) := by decide +kernel
theorem dX7_poll_36 : decode cX7_poll 36 = .ok (.aload_n 0, 1) := by decide +kernel
theorem dX7_poll_37 : decode cX7_poll 37 = .ok (.getfield 74, 3) := by decide +kernel
theorem dX7_poll_40 : decode cX7_poll 40 = .ok (.invokevirtual 149, 3) := by decide +kernel
theorem dX7_poll_43 : decode cX7_poll 43 = .ok (.aload_n 0, 1) := by decide +kernel
theorem dX7_poll_44 : decode cX7_poll 44 = .ok (.dup, 1) := by decide +kernel
theorem dX7_poll_45 : decode cX7_poll 45 = .ok (.getfield 146, 3) := by decide +kernel
theorem dX7_poll_48 : decode cX7_poll 48 = .ok (.iconst 1, 1) := by decide +kernel
theorem dX7_poll_49 : decode cX7_poll 49 = .ok (.iadd, 1) := by decide +kernel
theorem dX7_poll_50 : decode cX7_poll 50 = .ok (.putfield 146, 3) := by decide +kernel
theorem dX7_poll_53 : decode cX7_poll 53 = .ok (.aload_n 0, 1) := by decide +kernel
theorem dX7_poll_54 : decode cX7_poll 54 = .ok (.getfield 77, 3) := by decide +kernel
theorem dX7_poll_57 : decode cX7_poll 57 = .ok (.iload 4, 2) := by decide +kernel
theorem dX7_poll_59 : decode cX7_poll 59 = .ok (.if_icmp .eq 7, 3) := by decide +kernel
theorem dX7_poll_62 : decode cX7_poll 62 = .ok (.aload_n 0, 1) := by decide +kernel
theorem dX7_poll_63 : decode cX7_poll 63 = .ok (.invokevirtual 152, 3) := by decide +kernel
theorem dX7_poll_66 : decode cX7_poll 66 = .ok (.aload_n 0, 1) := by decide +kernel
theorem dX7_poll_67 : decode cX7_poll 67 = .ok (.iload 4, 2) := by decide +kernel
theorem dX7_poll_69 : decode cX7_poll 69 = .ok (.iconst 2, 1) := by decide +kernel
theorem dX7_poll_70 : decode cX7_poll 70 = .ok (.iconst 4, 1) := by decide +kernel
theorem dX7_poll_71 : decode cX7_poll 71 = .ok (.invokestatic 66, 3) := by decide +kernel
theorem dX7_poll_74 : decode cX7_poll 74 = .ok (.ifCond .eq 19, 3) := by decide +kernel
theorem dX7_poll_77 : decode cX7_poll 77 = .ok (.aload_n 0, 1) := by decide +kernel
theorem dX7_poll_78 : decode cX7_poll 78 = .ok (.getfield 87, 3) := by decide +kernel
theorem dX7_poll_81 : decode cX7_poll 81 = .ok (.ifCond .ne 12, 3) := by decide +kernel
theorem dX7_poll_84 : decode cX7_poll 84 = .ok (.aload_n 0, 1) := by decide +kernel
theorem dX7_poll_85 : decode cX7_poll 85 = .ok (.getfield 155, 3) := by decide +kernel
theorem dX7_poll_88 : decode cX7_poll 88 = .ok (.iconst 1, 1) := by decide +kernel
theorem dX7_poll_89 : decode cX7_poll 89 = .ok (.iadd, 1) := by decide +kernel
theorem dX7_poll_90 : decode cX7_poll 90 = .ok (.goto 4, 3) := by decide +kernel
theorem dX7_poll_93 : decode cX7_poll 93 = .ok (.iconst 0, 1) := by decide +kernel
theorem dX7_poll_94 : decode cX7_poll 94 = .ok (.putfield 155, 3) := by decide +kernel
theorem dX7_poll_97 : decode cX7_poll 97 = .ok (.aload_n 0, 1) := by decide +kernel
theorem dX7_poll_98 : decode cX7_poll 98 = .ok (.aload_n 0, 1) := by decide +kernel
theorem dX7_poll_99 : decode cX7_poll 99 = .ok (.getfield 155, 3) := by decide +kernel
theorem dX7_poll_102 : decode cX7_poll 102 = .ok (.aload_n 0, 1) := by decide +kernel
theorem dX7_poll_103 : decode cX7_poll 103 = .ok (.getfield 158, 3) := by decide +kernel
theorem dX7_poll_106 : decode cX7_poll 106 = .ok (.if_icmp .le 10, 3) := by decide +kernel
theorem dX7_poll_109 : decode cX7_poll 109 = .ok (.aload_n 0, 1) := by decide +kernel
theorem dX7_poll_110 : decode cX7_poll 110 = .ok (.getfield 155, 3) := by decide +kernel
theorem dX7_poll_113 : decode cX7_poll 113 = .ok (.goto 7, 3) := by decide +kernel
theorem dX7_poll_116 : decode cX7_poll 116 = .ok (.aload_n 0, 1) := by decide +kernel
theorem dX7_poll_117 : decode cX7_poll 117 = .ok (.getfield 158, 3) := by decide +kernel
theorem dX7_poll_120 : decode cX7_poll 120 = .ok (.putfield 158, 3) := by decide +kernel
theorem dX7_poll_123 : decode cX7_poll 123 = .ok (.iinc 3 1, 3) := by decide +kernel
theorem dX7_poll_126 : decode cX7_poll 126 = .ok (.goto (-102), 3) := by decide +kernel
theorem dX7_poll_129 : decode cX7_poll 129 = .ok (.aload_n 0, 1) := by decide +kernel
theorem dX7_poll_130 : decode cX7_poll 130 = .ok (.getfield 143, 3) := by decide +kernel
theorem dX7_poll_133 : decode cX7_poll 133 = .ok (.iload_n 2, 1) := by decide +kernel
theorem dX7_poll_134 : decode cX7_poll 134 = .ok (.isub, 1) := by decide +kernel
theorem dX7_poll_135 : decode cX7_poll 135 = .ok (.ireturn, 1) := by decide +kernel
theorem dX7_recentResets_0 : decode cX7_recentResets 0 = .ok (.iconst 0, 1) := by decide +kernel
theorem dX7_recentResets_1 : decode cX7_recentResets 1 = .ok (.istore_n 1, 1) := by decide +kernel
theorem dX7_recentResets_2 : decode cX7_recentResets 2 = .ok (.iconst 0, 1) := by decide +kernel
theorem dX7_recentResets_3 : decode cX7_recentResets 3 = .ok (.istore_n 2, 1) := by decide +kernel
theorem dX7_recentResets_4 : decode cX7_recentResets 4 = .ok (.iload_n 2, 1) := by decide +kernel
theorem dX7_recentResets_5 : decode cX7_recentResets 5 = .ok (.iconst 3, 1) := by decide +kernel
theorem dX7_recentResets_6 : decode cX7_recentResets 6 = .ok (.if_icmp .ge 41, 3) := by decide +kernel
theorem dX7_recentResets_9 : decode cX7_recentResets 9 = .ok (.iload_n 2, 1) := by decide +kernel
theorem dX7_recentResets_10 : decode cX7_recentResets 10 = .ok (.aload_n 0, 1) := by decide +kernel
theorem dX7_recentResets_11 : decode cX7_recentResets 11 = .ok (.getfield 161, 3) := by decide +kernel
theorem dX7_recentResets_14 : decode cX7_recentResets 14 = .ok (.if_icmp .ge 33, 3) := by decide +kernel
theorem dX7_recentResets_17 : decode cX7_recentResets 17 = .ok (.iload_n 1, 1) := by decide +kernel
theorem dX7_recentResets_18 : decode cX7_recentResets 18 = .ok (.aload_n 0, 1) := by decide +kernel
theorem dX7_recentResets_19 : decode cX7_recentResets 19 = .ok (.getfield 146, 3) := by decide +kernel
theorem dX7_recentResets_22 : decode cX7_recentResets 22 = .ok (.aload_n 0, 1) := by decide +kernel
theorem dX7_recentResets_23 : decode cX7_recentResets 23 = .ok (.getfield 53, 3) := by decide +kernel
theorem dX7_recentResets_26 : decode cX7_recentResets 26 = .ok (.iload_n 2, 1) := by decide +kernel
theorem dX7_recentResets_27 : decode cX7_recentResets 27 = .ok (.iaload, 1) := by decide +kernel
theorem dX7_recentResets_28 : decode cX7_recentResets 28 = .ok (.isub, 1) := by decide +kernel
theorem dX7_recentResets_29 : decode cX7_recentResets 29 = .ok (.bipush 100, 2) := by decide +kernel
theorem dX7_recentResets_31 : decode cX7_recentResets 31 = .ok (.if_icmp .ge 7, 3) := by decide +kernel
theorem dX7_recentResets_34 : decode cX7_recentResets 34 = .ok (.iconst 1, 1) := by decide +kernel
theorem dX7_recentResets_35 : decode cX7_recentResets 35 = .ok (.goto 4, 3) := by decide +kernel
theorem dX7_recentResets_38 : decode cX7_recentResets 38 = .ok (.iconst 0, 1) := by decide +kernel
theorem dX7_recentResets_39 : decode cX7_recentResets 39 = .ok (.iadd, 1) := by decide +kernel
theorem dX7_recentResets_40 : decode cX7_recentResets 40 = .ok (.istore_n 1, 1) := by decide +kernel
theorem dX7_recentResets_41 : decode cX7_recentResets 41 = .ok (.iinc 2 1, 3) := by decide +kernel
theorem dX7_recentResets_44 : decode cX7_recentResets 44 = .ok (.goto (-40), 3) := by decide +kernel
theorem dX7_recentResets_47 : decode cX7_recentResets 47 = .ok (.iload_n 1, 1) := by decide +kernel
theorem dX7_recentResets_48 : decode cX7_recentResets 48 = .ok (.ireturn, 1) := by decide +kernel
set_option maxRecDepth 20000 in
theorem ggX7_reset_X7_recentResets : GoodIn wsX7_reset wsX7_recentResets := goodIn_r _ [11, 5, 6, 4, 32, 33, 34, 35, 36, 37, 38, 39, 40, 41, 42, 43, 44, 45, 46, 47, 48, 49, 50, 51, 52, 53, 54, 55, 56, 57, 58, 59, 60, 61, 62, 63, 64, 65, 66] (by decide +kernel) (by decide +kernel)
set_option maxRecDepth 20000 in
theorem gX7_reset_X7_recentResets : GoodIn wsX7_reset (wsV RX7 164 RX7 yX7_recentResets wsX7_recentResets) := goodIn_app (goodIn_of _ (by decide +kernel)) ggX7_reset_X7_recentResets
set_option maxRecDepth 20000 in
theorem ggX7_reset_X7_asks : GoodIn wsX7_reset wsX7_asks := goodIn_r _ [15, 16, 32, 33, 34, 35, 36, 37, 38, 39, 40, 41, 42, 43, 44, 45, 46, 47, 48, 49, 50, 51, 52, 53, 54, 55, 56, 57, 58, 59, 60, 61, 62, 63, 64, 65, 66] (by decide +kernel) (by decide +kernel)
set_option maxRecDepth 20000 in
theorem gX7_reset_X7_asks : GoodIn wsX7_reset (wsV RX7 70 RX7 yX7_asks wsX7_asks) := goodIn_app (goodIn_of _ (by decide +kernel)) ggX7_reset_X7_asks
set_option maxRecDepth 20000 in
theorem ggX7_reset_X7_begins : GoodIn wsX7_reset wsX7_begins := goodIn_r _ [20, 1, 21, 3, 22, 23, 32, 33, 34, 35, 36, 37, 38, 39, 40, 41, 42, 43, 44, 45, 46, 47, 48, 49, 50, 51, 52, 53, 54, 55, 56, 57, 58, 59, 60, 61, 62, 63, 64, 65, 66] (by decide +kernel) (by decide +kernel)
set_option maxRecDepth 20000 in
theorem gX7_reset_X7_begins : GoodIn wsX7_reset (wsV RX7 109 RX7 yX7_begins wsX7_begins) := goodIn_app (goodIn_of _ (by decide +kernel)) ggX7_reset_X7_begins
set_option maxRecDepth 20000 in
theorem ggX7_reset_X7_notes : GoodIn wsX7_reset wsX7_notes := goodIn_r _ [27, 28, 29, 6, 30, 1, 31, 21, 32, 33, 34, 35, 36, 37, 38, 39, 40, 41, 42, 43, 44, 45, 46, 47, 48, 49, 50, 51, 52, 53, 54, 55, 56, 57, 58, 59, 60, 61, 62, 63, 64, 65, 66] (by decide +kernel) (by decide +kernel)
set_option maxRecDepth 20000 in
theorem gX7_reset_X7_notes : GoodIn wsX7_reset (wsV RX7 152 RX7 yX7_notes wsX7_notes) := goodIn_app (goodIn_of _ (by decide +kernel)) ggX7_reset_X7_notes
theorem dX7_reset_0 : decode cX7_reset 0 = .ok (.aload_n 0, 1) := by decide +kernel
theorem dX7_reset_1 : decode cX7_reset 1 = .ok (.aload_n 0, 1) := by decide +kernel
theorem dX7_reset_2 : decode cX7_reset 2 = .ok (.getfield 77, 3) := by decide +kernel
theorem dX7_reset_5 : decode cX7_reset 5 = .ok (.bipush 6, 2) := by decide +kernel
theorem dX7_reset_7 : decode cX7_reset 7 = .ok (.if_icmp .ne 30, 3) := by decide +kernel
theorem dX7_reset_10 : decode cX7_reset 10 = .ok (.aload_n 0, 1) := by decide +kernel
theorem dX7_reset_11 : decode cX7_reset 11 = .ok (.getfield 87, 3) := by decide +kernel
theorem dX7_reset_14 : decode cX7_reset 14 = .ok (.ifCond .ne 23, 3) := by decide +kernel
theorem dX7_reset_17 : decode cX7_reset 17 = .ok (.aload_n 0, 1) := by decide +kernel
theorem dX7_reset_18 : decode cX7_reset 18 = .ok (.getfield 103, 3) := by decide +kernel
theorem dX7_reset_21 : decode cX7_reset 21 = .ok (.iconst 5, 1) := by decide +kernel
theorem dX7_reset_22 : decode cX7_reset 22 = .ok (.if_icmp .lt 15, 3) := by decide +kernel
theorem dX7_reset_25 : decode cX7_reset 25 = .ok (.aload_n 0, 1) := by decide +kernel
theorem dX7_reset_26 : decode cX7_reset 26 = .ok (.invokevirtual 164, 3) := by decide +kernel
theorem dX7_reset_29 : decode cX7_reset 29 = .ok (.iconst 3, 1) := by decide +kernel
theorem dX7_reset_30 : decode cX7_reset 30 = .ok (.if_icmp .ge 7, 3) := by decide +kernel
theorem dX7_reset_33 : decode cX7_reset 33 = .ok (.iconst 1, 1) := by decide +kernel
theorem dX7_reset_34 : decode cX7_reset 34 = .ok (.goto 4, 3) := by decide +kernel
theorem dX7_reset_37 : decode cX7_reset 37 = .ok (.iconst 0, 1) := by decide +kernel
theorem dX7_reset_38 : decode cX7_reset 38 = .ok (.invokevirtual 70, 3) := by decide +kernel
theorem dX7_reset_41 : decode cX7_reset 41 = .ok (.ifCond .ne 5, 3) := by decide +kernel
theorem dX7_reset_44 : decode cX7_reset 44 = .ok (.iconst 0, 1) := by decide +kernel
theorem dX7_reset_45 : decode cX7_reset 45 = .ok (.ireturn, 1) := by decide +kernel
theorem dX7_reset_46 : decode cX7_reset 46 = .ok (.aload_n 0, 1) := by decide +kernel
theorem dX7_reset_47 : decode cX7_reset 47 = .ok (.getfield 53, 3) := by decide +kernel
theorem dX7_reset_50 : decode cX7_reset 50 = .ok (.aload_n 0, 1) := by decide +kernel
theorem dX7_reset_51 : decode cX7_reset 51 = .ok (.getfield 161, 3) := by decide +kernel
theorem dX7_reset_54 : decode cX7_reset 54 = .ok (.iconst 3, 1) := by decide +kernel
theorem dX7_reset_55 : decode cX7_reset 55 = .ok (.irem, 1) := by decide +kernel
theorem dX7_reset_56 : decode cX7_reset 56 = .ok (.aload_n 0, 1) := by decide +kernel
theorem dX7_reset_57 : decode cX7_reset 57 = .ok (.getfield 146, 3) := by decide +kernel
theorem dX7_reset_60 : decode cX7_reset 60 = .ok (.iastore, 1) := by decide +kernel
theorem dX7_reset_61 : decode cX7_reset 61 = .ok (.aload_n 0, 1) := by decide +kernel
theorem dX7_reset_62 : decode cX7_reset 62 = .ok (.dup, 1) := by decide +kernel
theorem dX7_reset_63 : decode cX7_reset 63 = .ok (.getfield 161, 3) := by decide +kernel
theorem dX7_reset_66 : decode cX7_reset 66 = .ok (.iconst 1, 1) := by decide +kernel
theorem dX7_reset_67 : decode cX7_reset 67 = .ok (.iadd, 1) := by decide +kernel
theorem dX7_reset_68 : decode cX7_reset 68 = .ok (.putfield 161, 3) := by decide +kernel
theorem dX7_reset_71 : decode cX7_reset 71 = .ok (.aload_n 0, 1) := by decide +kernel
theorem dX7_reset_72 : decode cX7_reset 72 = .ok (.iconst 0, 1) := by decide +kernel
theorem dX7_reset_73 : decode cX7_reset 73 = .ok (.iconst 0, 1) := by decide +kernel
theorem dX7_reset_74 : decode cX7_reset 74 = .ok (.invokevirtual 109, 3) := by decide +kernel
theorem dX7_reset_77 : decode cX7_reset 77 = .ok (.aload_n 0, 1) := by decide +kernel
theorem dX7_reset_78 : decode cX7_reset 78 = .ok (.invokevirtual 152, 3) := by decide +kernel
theorem dX7_reset_81 : decode cX7_reset 81 = .ok (.aload_n 0, 1) := by decide +kernel
theorem dX7_reset_82 : decode cX7_reset 82 = .ok (.invokevirtual 164, 3) := by decide +kernel
theorem dX7_reset_85 : decode cX7_reset 85 = .ok (.ireturn, 1) := by decide +kernel
theorem dX7_ticks_0 : decode cX7_ticks 0 = .ok (.aload_n 0, 1) := by decide +kernel
theorem dX7_ticks_1 : decode cX7_ticks 1 = .ok (.iconst 0, 1) := by decide +kernel
theorem dX7_ticks_2 : decode cX7_ticks 2 = .ok (.putfield 63, 3) := by decide +kernel
theorem dX7_ticks_5 : decode cX7_ticks 5 = .ok (.aload_n 0, 1) := by decide +kernel
theorem dX7_ticks_6 : decode cX7_ticks 6 = .ok (.getfield 146, 3) := by decide +kernel
theorem dX7_ticks_9 : decode cX7_ticks 9 = .ok (.ireturn, 1) := by decide +kernel
theorem dX7_state_0 : decode cX7_state 0 = .ok (.aload_n 0, 1) := by decide +kernel
theorem dX7_state_1 : decode cX7_state 1 = .ok (.iconst 0, 1) := by decide +kernel
theorem dX7_state_2 : decode cX7_state 2 = .ok (.putfield 63, 3) := by decide +kernel
theorem dX7_state_5 : decode cX7_state 5 = .ok (.aload_n 0, 1) := by decide +kernel
theorem dX7_state_6 : decode cX7_state 6 = .ok (.getfield 77, 3) := by decide +kernel
theorem dX7_state_9 : decode cX7_state 9 = .ok (.ireturn, 1) := by decide +kernel
theorem dX7_reason_0 : decode cX7_reason 0 = .ok (.aload_n 0, 1) := by decide +kernel
theorem dX7_reason_1 : decode cX7_reason 1 = .ok (.iconst 0, 1) := by decide +kernel
theorem dX7_reason_2 : decode cX7_reason 2 = .ok (.putfield 63, 3) := by decide +kernel
theorem dX7_reason_5 : decode cX7_reason 5 = .ok (.aload_n 0, 1) := by decide +kernel
theorem dX7_reason_6 : decode cX7_reason 6 = .ok (.getfield 100, 3) := by decide +kernel
theorem dX7_reason_9 : decode cX7_reason 9 = .ok (.ireturn, 1) := by decide +kernel
theorem dX7_time_0 : decode cX7_time 0 = .ok (.aload_n 0, 1) := by decide +kernel
theorem dX7_time_1 : decode cX7_time 1 = .ok (.iconst 0, 1) := by decide +kernel
theorem dX7_time_2 : decode cX7_time 2 = .ok (.putfield 63, 3) := by decide +kernel
theorem dX7_time_5 : decode cX7_time 5 = .ok (.aload_n 0, 1) := by decide +kernel
theorem dX7_time_6 : decode cX7_time 6 = .ok (.getfield 103, 3) := by decide +kernel
theorem dX7_time_9 : decode cX7_time 9 = .ok (.ireturn, 1) := by decide +kernel
theorem dX7_isOpen_0 : decode cX7_isOpen 0 = .ok (.aload_n 0, 1) := by decide +kernel
theorem dX7_isOpen_1 : decode cX7_isOpen 1 = .ok (.iconst 0, 1) := by decide +kernel
theorem dX7_isOpen_2 : decode cX7_isOpen 2 = .ok (.putfield 63, 3) := by decide +kernel
theorem dX7_isOpen_5 : decode cX7_isOpen 5 = .ok (.iload_n 1, 1) := by decide +kernel
theorem dX7_isOpen_6 : decode cX7_isOpen 6 = .ok (.ifCond .eq 27, 3) := by decide +kernel
theorem dX7_isOpen_9 : decode cX7_isOpen 9 = .ok (.aload_n 0, 1) := by decide +kernel
theorem dX7_isOpen_10 : decode cX7_isOpen 10 = .ok (.getfield 77, 3) := by decide +kernel
theorem dX7_isOpen_13 : decode cX7_isOpen 13 = .ok (.iconst 3, 1) := by decide +kernel
theorem dX7_isOpen_14 : decode cX7_isOpen 14 = .ok (.if_icmp .eq 11, 3) := by decide +kernel
theorem dX7_isOpen_17 : decode cX7_isOpen 17 = .ok (.aload_n 0, 1) := by decide +kernel
theorem dX7_isOpen_18 : decode cX7_isOpen 18 = .ok (.getfield 77, 3) := by decide +kernel
theorem dX7_isOpen_21 : decode cX7_isOpen 21 = .ok (.iconst 4, 1) := by decide +kernel
theorem dX7_isOpen_22 : decode cX7_isOpen 22 = .ok (.if_icmp .ne 7, 3) := by decide +kernel
theorem dX7_isOpen_25 : decode cX7_isOpen 25 = .ok (.iconst 1, 1) := by decide +kernel
theorem dX7_isOpen_26 : decode cX7_isOpen 26 = .ok (.goto 28, 3) := by decide +kernel
theorem dX7_isOpen_29 : decode cX7_isOpen 29 = .ok (.iconst 0, 1) := by decide +kernel
theorem dX7_isOpen_30 : decode cX7_isOpen 30 = .ok (.goto 24, 3) := by decide +kernel
theorem dX7_isOpen_33 : decode cX7_isOpen 33 = .ok (.aload_n 0, 1) := by decide +kernel
theorem dX7_isOpen_34 : decode cX7_isOpen 34 = .ok (.getfield 77, 3) := by decide +kernel
theorem dX7_isOpen_37 : decode cX7_isOpen 37 = .ok (.iconst 2, 1) := by decide +kernel
theorem dX7_isOpen_38 : decode cX7_isOpen 38 = .ok (.if_icmp .eq 11, 3) := by decide +kernel
theorem dX7_isOpen_41 : decode cX7_isOpen 41 = .ok (.aload_n 0, 1) := by decide +kernel
theorem dX7_isOpen_42 : decode cX7_isOpen 42 = .ok (.getfield 77, 3) := by decide +kernel
theorem dX7_isOpen_45 : decode cX7_isOpen 45 = .ok (.iconst 3, 1) := by decide +kernel
theorem dX7_isOpen_46 : decode cX7_isOpen 46 = .ok (.if_icmp .ne 7, 3) := by decide +kernel
theorem dX7_isOpen_49 : decode cX7_isOpen 49 = .ok (.iconst 1, 1) := by decide +kernel
theorem dX7_isOpen_50 : decode cX7_isOpen 50 = .ok (.goto 4, 3) := by decide +kernel
theorem dX7_isOpen_53 : decode cX7_isOpen 53 = .ok (.iconst 0, 1) := by decide +kernel
theorem dX7_isOpen_54 : decode cX7_isOpen 54 = .ok (.ireturn, 1) := by decide +kernel
set_option maxRecDepth 20000 in
theorem ggX7_sees_X7_has : GoodIn wsX7_sees wsX7_has := goodIn_r _ [6] (by decide +kernel) (by decide +kernel)
set_option maxRecDepth 20000 in
theorem gX7_sees_X7_has : GoodIn wsX7_sees (va_wsS RX7 83 yX7_has wsX7_has) := goodIn_app (goodIn_of _ (by decide +kernel)) ggX7_sees_X7_has
theorem dX7_sees_0 : decode cX7_sees 0 = .ok (.aload_n 0, 1) := by decide +kernel
theorem dX7_sees_1 : decode cX7_sees 1 = .ok (.iconst 0, 1) := by decide +kernel
theorem dX7_sees_2 : decode cX7_sees 2 = .ok (.putfield 63, 3) := by decide +kernel
theorem dX7_sees_5 : decode cX7_sees 5 = .ok (.aload_n 0, 1) := by decide +kernel
theorem dX7_sees_6 : decode cX7_sees 6 = .ok (.getfield 87, 3) := by decide +kernel
theorem dX7_sees_9 : decode cX7_sees 9 = .ok (.iload_n 1, 1) := by decide +kernel
theorem dX7_sees_10 : decode cX7_sees 10 = .ok (.ifCond .eq 7, 3) := by decide +kernel
theorem dX7_sees_13 : decode cX7_sees 13 = .ok (.iconst 1, 1) := by decide +kernel
theorem dX7_sees_14 : decode cX7_sees 14 = .ok (.goto 4, 3) := by decide +kernel
theorem dX7_sees_17 : decode cX7_sees 17 = .ok (.iconst 0, 1) := by decide +kernel
theorem dX7_sees_18 : decode cX7_sees 18 = .ok (.invokestatic 83, 3) := by decide +kernel
theorem dX7_sees_21 : decode cX7_sees 21 = .ok (.ireturn, 1) := by decide +kernel
theorem dX7_air_0 : decode cX7_air 0 = .ok (.aload_n 0, 1) := by decide +kernel
theorem dX7_air_1 : decode cX7_air 1 = .ok (.iconst 0, 1) := by decide +kernel
theorem dX7_air_2 : decode cX7_air 2 = .ok (.putfield 63, 3) := by decide +kernel
theorem dX7_air_5 : decode cX7_air 5 = .ok (.aload_n 0, 1) := by decide +kernel
theorem dX7_air_6 : decode cX7_air 6 = .ok (.getfield 93, 3) := by decide +kernel
theorem dX7_air_9 : decode cX7_air 9 = .ok (.ireturn, 1) := by decide +kernel
theorem dX7_fuel_0 : decode cX7_fuel 0 = .ok (.aload_n 0, 1) := by decide +kernel
theorem dX7_fuel_1 : decode cX7_fuel 1 = .ok (.iconst 0, 1) := by decide +kernel
theorem dX7_fuel_2 : decode cX7_fuel 2 = .ok (.putfield 63, 3) := by decide +kernel
theorem dX7_fuel_5 : decode cX7_fuel 5 = .ok (.aload_n 0, 1) := by decide +kernel
theorem dX7_fuel_6 : decode cX7_fuel 6 = .ok (.getfield 90, 3) := by decide +kernel
theorem dX7_fuel_9 : decode cX7_fuel 9 = .ok (.ireturn, 1) := by decide +kernel
theorem dX7_purged_0 : decode cX7_purged 0 = .ok (.aload_n 0, 1) := by decide +kernel
theorem dX7_purged_1 : decode cX7_purged 1 = .ok (.iconst 0, 1) := by decide +kernel
theorem dX7_purged_2 : decode cX7_purged 2 = .ok (.putfield 63, 3) := by decide +kernel
theorem dX7_purged_5 : decode cX7_purged 5 = .ok (.aload_n 0, 1) := by decide +kernel
theorem dX7_purged_6 : decode cX7_purged 6 = .ok (.getfield 106, 3) := by decide +kernel
theorem dX7_purged_9 : decode cX7_purged 9 = .ok (.ireturn, 1) := by decide +kernel
theorem dX7_unlit_0 : decode cX7_unlit 0 = .ok (.aload_n 0, 1) := by decide +kernel
theorem dX7_unlit_1 : decode cX7_unlit 1 = .ok (.iconst 0, 1) := by decide +kernel
theorem dX7_unlit_2 : decode cX7_unlit 2 = .ok (.putfield 63, 3) := by decide +kernel
theorem dX7_unlit_5 : decode cX7_unlit 5 = .ok (.aload_n 0, 1) := by decide +kernel
theorem dX7_unlit_6 : decode cX7_unlit 6 = .ok (.getfield 155, 3) := by decide +kernel
theorem dX7_unlit_9 : decode cX7_unlit 9 = .ok (.ireturn, 1) := by decide +kernel
theorem dX7_longestUnlit_0 : decode cX7_longestUnlit 0 = .ok (.aload_n 0, 1) := by decide +kernel
theorem dX7_longestUnlit_1 : decode cX7_longestUnlit 1 = .ok (.iconst 0, 1) := by decide +kernel
theorem dX7_longestUnlit_2 : decode cX7_longestUnlit 2 = .ok (.putfield 63, 3) := by decide +kernel
theorem dX7_longestUnlit_5 : decode cX7_longestUnlit 5 = .ok (.aload_n 0, 1) := by decide +kernel
theorem dX7_longestUnlit_6 : decode cX7_longestUnlit 6 = .ok (.getfield 158, 3) := by decide +kernel
theorem dX7_longestUnlit_9 : decode cX7_longestUnlit 9 = .ok (.ireturn, 1) := by decide +kernel
theorem dX7_changes_0 : decode cX7_changes 0 = .ok (.aload_n 0, 1) := by decide +kernel
theorem dX7_changes_1 : decode cX7_changes 1 = .ok (.iconst 0, 1) := by decide +kernel
theorem dX7_changes_2 : decode cX7_changes 2 = .ok (.putfield 63, 3) := by decide +kernel
theorem dX7_changes_5 : decode cX7_changes 5 = .ok (.aload_n 0, 1) := by decide +kernel
theorem dX7_changes_6 : decode cX7_changes 6 = .ok (.getfield 143, 3) := by decide +kernel
theorem dX7_changes_9 : decode cX7_changes 9 = .ok (.ireturn, 1) := by decide +kernel
theorem dX7_kept_0 : decode cX7_kept 0 = .ok (.aload_n 0, 1) := by decide +kernel
theorem dX7_kept_1 : decode cX7_kept 1 = .ok (.getfield 143, 3) := by decide +kernel
theorem dX7_kept_4 : decode cX7_kept 4 = .ok (.bipush 100, 2) := by decide +kernel
theorem dX7_kept_6 : decode cX7_kept 6 = .ok (.if_icmp .ge 10, 3) := by decide +kernel
theorem dX7_kept_9 : decode cX7_kept 9 = .ok (.aload_n 0, 1) := by decide +kernel
theorem dX7_kept_10 : decode cX7_kept 10 = .ok (.getfield 143, 3) := by decide +kernel
theorem dX7_kept_13 : decode cX7_kept 13 = .ok (.goto 5, 3) := by decide +kernel
theorem dX7_kept_16 : decode cX7_kept 16 = .ok (.bipush 100, 2) := by decide +kernel
theorem dX7_kept_18 : decode cX7_kept 18 = .ok (.ireturn, 1) := by decide +kernel
set_option maxRecDepth 20000 in
theorem ggX7_records_X7_kept : GoodIn wsX7_records wsX7_kept := goodIn_r _ [6, 7, 8, 9, 10, 11, 12, 13, 14, 15, 16, 17, 18, 19, 20, 21, 22, 23, 24, 25, 26, 27, 28, 29, 30, 31, 32, 33, 34, 35, 36, 37, 38, 39, 40, 41, 42] (by decide +kernel) (by decide +kernel)
set_option maxRecDepth 20000 in
theorem gX7_records_X7_kept : GoodIn wsX7_records (wsV RX7 168 RX7 yX7_kept wsX7_kept) := goodIn_app (goodIn_of _ (by decide +kernel)) ggX7_records_X7_kept
theorem dX7_records_0 : decode cX7_records 0 = .ok (.aload_n 0, 1) := by decide +kernel
theorem dX7_records_1 : decode cX7_records 1 = .ok (.iconst 0, 1) := by decide +kernel
theorem dX7_records_2 : decode cX7_records 2 = .ok (.putfield 63, 3) := by decide +kernel
theorem dX7_records_5 : decode cX7_records 5 = .ok (.aload_n 0, 1) := by decide +kernel
theorem dX7_records_6 : decode cX7_records 6 = .ok (.invokevirtual 168, 3) := by decide +kernel
theorem dX7_records_9 : decode cX7_records 9 = .ok (.ireturn, 1) := by decide +kernel
theorem dX7_place_0 : decode cX7_place 0 = .ok (.aload_n 0, 1) := by decide +kernel
theorem dX7_place_1 : decode cX7_place 1 = .ok (.getfield 143, 3) := by decide +kernel
theorem dX7_place_4 : decode cX7_place 4 = .ok (.iconst 1, 1) := by decide +kernel
theorem dX7_place_5 : decode cX7_place 5 = .ok (.isub, 1) := by decide +kernel
theorem dX7_place_6 : decode cX7_place 6 = .ok (.iload_n 1, 1) := by decide +kernel
theorem dX7_place_7 : decode cX7_place 7 = .ok (.isub, 1) := by decide +kernel
theorem dX7_place_8 : decode cX7_place 8 = .ok (.bipush 100, 2) := by decide +kernel
theorem dX7_place_10 : decode cX7_place 10 = .ok (.irem, 1) := by decide +kernel
theorem dX7_place_11 : decode cX7_place 11 = .ok (.ireturn, 1) := by decide +kernel
set_option maxRecDepth 20000 in
theorem ggX7_tickOf_X7_kept : GoodIn wsX7_tickOf wsX7_kept := goodIn_r _ [6, 7, 17, 18, 19, 20, 21, 22, 23, 24, 25, 26, 27, 28, 29, 30, 31, 32, 33, 34, 35, 36, 37, 38, 39, 40, 41, 42, 43, 44, 45, 46, 47, 48, 49, 50, 51] (by decide +kernel) (by decide +kernel)
set_option maxRecDepth 20000 in
theorem gX7_tickOf_X7_kept : GoodIn wsX7_tickOf (wsV RX7 168 RX7 yX7_kept wsX7_kept) := goodIn_app (goodIn_of _ (by decide +kernel)) ggX7_tickOf_X7_kept
set_option maxRecDepth 20000 in
theorem ggX7_tickOf_X7_asks : GoodIn wsX7_tickOf wsX7_asks := goodIn_r _ [11, 12, 17, 18, 19, 20, 21, 22, 23, 24, 25, 26, 27, 28, 29, 30, 31, 32, 33, 34, 35, 36, 37, 38, 39, 40, 41, 42, 43, 44, 45, 46, 47, 48, 49, 50, 51] (by decide +kernel) (by decide +kernel)
set_option maxRecDepth 20000 in
theorem gX7_tickOf_X7_asks : GoodIn wsX7_tickOf (wsV RX7 70 RX7 yX7_asks wsX7_asks) := goodIn_app (goodIn_of _ (by decide +kernel)) ggX7_tickOf_X7_asks
set_option maxRecDepth 20000 in
theorem ggX7_tickOf_X7_place : GoodIn wsX7_tickOf wsX7_place := goodIn_r _ [16, 7, 17, 18, 19, 20, 21, 22, 23, 24, 25, 26, 27, 28, 29, 30, 31, 32, 33, 34, 35, 36, 37, 38, 39, 40, 41, 42, 43, 44, 45, 46, 47, 48, 49, 50, 51] (by decide +kernel) (by decide +kernel)
set_option maxRecDepth 20000 in
theorem gX7_tickOf_X7_place : GoodIn wsX7_tickOf (wsV RX7 171 RX7 yX7_place wsX7_place) := goodIn_app (goodIn_of _ (by decide +kernel)) ggX7_tickOf_X7_place
theorem dX7_tickOf_0 : decode cX7_tickOf 0 = .ok (.aload_n 0, 1) := by decide +kernel
theorem dX7_tickOf_1 : decode cX7_tickOf 1 = .ok (.iload_n 1, 1) := by decide +kernel
theorem dX7_tickOf_2 : decode cX7_tickOf 2 = .ok (.ifCond .lt 15, 3) := by decide +kernel
theorem dX7_tickOf_5 : decode cX7_tickOf 5 = .ok (.iload_n 1, 1) := by decide +kernel
theorem dX7_tickOf_6 : decode cX7_tickOf 6 = .ok (.aload_n 0, 1) := by decide +kernel
theorem dX7_tickOf_7 : decode cX7_tickOf 7 = .ok (.invokevirtual 168, 3) := by decide +kernel
theorem dX7_tickOf_10 : decode cX7_tickOf 10 = .ok (.if_icmp .ge 7, 3) := by decide +kernel
theorem dX7_tickOf_13 : decode cX7_tickOf 13 = .ok (.iconst 1, 1) := by decide +kernel
theorem dX7_tickOf_14 : decode cX7_tickOf 14 = .ok (.goto 4, 3) := by decide +kernel
theorem dX7_tickOf_17 : decode cX7_tickOf 17 = .ok (.iconst 0, 1) := by decide +kernel
theorem dX7_tickOf_18 : decode cX7_tickOf 18 = .ok (.invokevirtual 70, 3) := by decide +kernel
theorem dX7_tickOf_21 : decode cX7_tickOf 21 = .ok (.ifCond .eq 16, 3) := by decide +kernel
theorem dX7_tickOf_24 : decode cX7_tickOf 24 = .ok (.aload_n 0, 1) := by decide +kernel
theorem dX7_tickOf_25 : decode cX7_tickOf 25 = .ok (.getfield 43, 3) := by decide +kernel
theorem dX7_tickOf_28 : decode cX7_tickOf 28 = .ok (.aload_n 0, 1) := by decide +kernel
theorem dX7_tickOf_29 : decode cX7_tickOf 29 = .ok (.iload_n 1, 1) := by decide +kernel
theorem dX7_tickOf_30 : decode cX7_tickOf 30 = .ok (.invokevirtual 171, 3) := by decide +kernel
theorem dX7_tickOf_33 : decode cX7_tickOf 33 = .ok (.iaload, 1) := by decide +kernel
theorem dX7_tickOf_34 : decode cX7_tickOf 34 = .ok (.goto 4, 3) := by decide +kernel
theorem dX7_tickOf_37 : decode cX7_tickOf 37 = .ok (.iconst 0, 1) := by decide +kernel
theorem dX7_tickOf_38 : decode cX7_tickOf 38 = .ok (.ireturn, 1) := by decide +kernel
set_option maxRecDepth 20000 in
theorem ggX7_stateOf_X7_kept : GoodIn wsX7_stateOf wsX7_kept := goodIn_r _ [6, 7, 17, 18, 19, 20, 21, 22, 23, 24, 25, 26, 27, 28, 29, 30, 31, 32, 33, 34, 35, 36, 37, 38, 39, 40, 41, 42, 43, 44, 45, 46, 47, 48, 49, 50, 51] (by decide +kernel) (by decide +kernel)
set_option maxRecDepth 20000 in
theorem gX7_stateOf_X7_kept : GoodIn wsX7_stateOf (wsV RX7 168 RX7 yX7_kept wsX7_kept) := goodIn_app (goodIn_of _ (by decide +kernel)) ggX7_stateOf_X7_kept
set_option maxRecDepth 20000 in
theorem ggX7_stateOf_X7_asks : GoodIn wsX7_stateOf wsX7_asks := goodIn_r _ [11, 12, 17, 18, 19, 20, 21, 22, 23, 24, 25, 26, 27, 28, 29, 30, 31, 32, 33, 34, 35, 36, 37, 38, 39, 40, 41, 42, 43, 44, 45, 46, 47, 48, 49, 50, 51] (by decide +kernel) (by decide +kernel)
set_option maxRecDepth 20000 in
theorem gX7_stateOf_X7_asks : GoodIn wsX7_stateOf (wsV RX7 70 RX7 yX7_asks wsX7_asks) := goodIn_app (goodIn_of _ (by decide +kernel)) ggX7_stateOf_X7_asks
set_option maxRecDepth 20000 in
theorem ggX7_stateOf_X7_place : GoodIn wsX7_stateOf wsX7_place := goodIn_r _ [16, 7, 17, 18, 19, 20, 21, 22, 23, 24, 25, 26, 27, 28, 29, 30, 31, 32, 33, 34, 35, 36, 37, 38, 39, 40, 41, 42, 43, 44, 45, 46, 47, 48, 49, 50, 51] (by decide +kernel) (by decide +kernel)
set_option maxRecDepth 20000 in
theorem gX7_stateOf_X7_place : GoodIn wsX7_stateOf (wsV RX7 171 RX7 yX7_place wsX7_place) := goodIn_app (goodIn_of _ (by decide +kernel)) ggX7_stateOf_X7_place
theorem dX7_stateOf_0 : decode cX7_stateOf 0 = .ok (.aload_n 0, 1) := by decide +kernel
theorem dX7_stateOf_1 : decode cX7_stateOf 1 = .ok (.iload_n 1, 1) := by decide +kernel
theorem dX7_stateOf_2 : decode cX7_stateOf 2 = .ok (.ifCond .lt 15, 3) := by decide +kernel
theorem dX7_stateOf_5 : decode cX7_stateOf 5 = .ok (.iload_n 1, 1) := by decide +kernel
theorem dX7_stateOf_6 : decode cX7_stateOf 6 = .ok (.aload_n 0, 1) := by decide +kernel
theorem dX7_stateOf_7 : decode cX7_stateOf 7 = .ok (.invokevirtual 168, 3) := by decide +kernel
theorem dX7_stateOf_10 : decode cX7_stateOf 10 = .ok (.if_icmp .ge 7, 3) := by decide +kernel
theorem dX7_stateOf_13 : decode cX7_stateOf 13 = .ok (.iconst 1, 1) := by decide +kernel
theorem dX7_stateOf_14 : decode cX7_stateOf 14 = .ok (.goto 4, 3) := by decide +kernel
theorem dX7_stateOf_17 : decode cX7_stateOf 17 = .ok (.iconst 0, 1) := by decide +kernel
theorem dX7_stateOf_18 : decode cX7_stateOf 18 = .ok (.invokevirtual 70, 3) := by decide +kernel
theorem dX7_stateOf_21 : decode cX7_stateOf 21 = .ok (.ifCond .eq 16, 3) := by decide +kernel
theorem dX7_stateOf_24 : decode cX7_stateOf 24 = .ok (.aload_n 0, 1) := by decide +kernel
theorem dX7_stateOf_25 : decode cX7_stateOf 25 = .ok (.getfield 47, 3) := by decide +kernel
theorem dX7_stateOf_28 : decode cX7_stateOf 28 = .ok (.aload_n 0, 1) := by decide +kernel
theorem dX7_stateOf_29 : decode cX7_stateOf 29 = .ok (.iload_n 1, 1) := by decide +kernel
theorem dX7_stateOf_30 : decode cX7_stateOf 30 = .ok (.invokevirtual 171, 3) := by decide +kernel
theorem dX7_stateOf_33 : decode cX7_stateOf 33 = .ok (.iaload, 1) := by decide +kernel
theorem dX7_stateOf_34 : decode cX7_stateOf 34 = .ok (.goto 4, 3) := by decide +kernel
theorem dX7_stateOf_37 : decode cX7_stateOf 37 = .ok (.iconst 0, 1) := by decide +kernel
theorem dX7_stateOf_38 : decode cX7_stateOf 38 = .ok (.ireturn, 1) := by decide +kernel
set_option maxRecDepth 20000 in
theorem ggX7_reasonOf_X7_kept : GoodIn wsX7_reasonOf wsX7_kept := goodIn_r _ [6, 7, 17, 18, 19, 20, 21, 22, 23, 24, 25, 26, 27, 28, 29, 30, 31, 32, 33, 34, 35, 36, 37, 38, 39, 40, 41, 42, 43, 44, 45, 46, 47, 48, 49, 50, 51] (by decide +kernel) (by decide +kernel)
set_option maxRecDepth 20000 in
theorem gX7_reasonOf_X7_kept : GoodIn wsX7_reasonOf (wsV RX7 168 RX7 yX7_kept wsX7_kept) := goodIn_app (goodIn_of _ (by decide +kernel)) ggX7_reasonOf_X7_kept
set_option maxRecDepth 20000 in
theorem ggX7_reasonOf_X7_asks : GoodIn wsX7_reasonOf wsX7_asks := goodIn_r _ [11, 12, 17, 18, 19, 20, 21, 22, 23, 24, 25, 26, 27, 28, 29, 30, 31, 32, 33, 34, 35, 36, 37, 38, 39, 40, 41, 42, 43, 44, 45, 46, 47, 48, 49, 50, 51] (by decide +kernel) (by decide +kernel)
set_option maxRecDepth 20000 in
theorem gX7_reasonOf_X7_asks : GoodIn wsX7_reasonOf (wsV RX7 70 RX7 yX7_asks wsX7_asks) := goodIn_app (goodIn_of _ (by decide +kernel)) ggX7_reasonOf_X7_asks
set_option maxRecDepth 20000 in
theorem ggX7_reasonOf_X7_place : GoodIn wsX7_reasonOf wsX7_place := goodIn_r _ [16, 7, 17, 18, 19, 20, 21, 22, 23, 24, 25, 26, 27, 28, 29, 30, 31, 32, 33, 34, 35, 36, 37, 38, 39, 40, 41, 42, 43, 44, 45, 46, 47, 48, 49, 50, 51] (by decide +kernel) (by decide +kernel)
set_option maxRecDepth 20000 in
theorem gX7_reasonOf_X7_place : GoodIn wsX7_reasonOf (wsV RX7 171 RX7 yX7_place wsX7_place) := goodIn_app (goodIn_of _ (by decide +kernel)) ggX7_reasonOf_X7_place
theorem dX7_reasonOf_0 : decode cX7_reasonOf 0 = .ok (.aload_n 0, 1) := by decide +kernel
theorem dX7_reasonOf_1 : decode cX7_reasonOf 1 = .ok (.iload_n 1, 1) := by decide +kernel
theorem dX7_reasonOf_2 : decode cX7_reasonOf 2 = .ok (.ifCond .lt 15, 3) := by decide +kernel
theorem dX7_reasonOf_5 : decode cX7_reasonOf 5 = .ok (.iload_n 1, 1) := by decide +kernel
theorem dX7_reasonOf_6 : decode cX7_reasonOf 6 = .ok (.aload_n 0, 1) := by decide +kernel
theorem dX7_reasonOf_7 : decode cX7_reasonOf 7 = .ok (.invokevirtual 168, 3) := by decide +kernel
theorem dX7_reasonOf_10 : decode cX7_reasonOf 10 = .ok (.if_icmp .ge 7, 3) := by decide +kernel
theorem dX7_reasonOf_13 : decode cX7_reasonOf 13 = .ok (.iconst 1, 1) := by decide +kernel
theorem dX7_reasonOf_14 : decode cX7_reasonOf 14 = .ok (.goto 4, 3) := by decide +kernel
theorem dX7_reasonOf_17 : decode cX7_reasonOf 17 = .ok (.iconst 0, 1) := by decide +kernel
theorem dX7_reasonOf_18 : decode cX7_reasonOf 18 = .ok (.invokevirtual 70, 3) := by decide +kernel
theorem dX7_reasonOf_21 : decode cX7_reasonOf 21 = .ok (.ifCond .eq 16, 3) := by decide +kernel
theorem dX7_reasonOf_24 : decode cX7_reasonOf 24 = .ok (.aload_n 0, 1) := by decide +kernel
theorem dX7_reasonOf_25 : decode cX7_reasonOf 25 = .ok (.getfield 50, 3) := by decide +kernel
theorem dX7_reasonOf_28 : decode cX7_reasonOf 28 = .ok (.aload_n 0, 1) := by decide +kernel
theorem dX7_reasonOf_29 : decode cX7_reasonOf 29 = .ok (.iload_n 1, 1) := by decide +kernel
theorem dX7_reasonOf_30 : decode cX7_reasonOf 30 = .ok (.invokevirtual 171, 3) := by decide +kernel
theorem dX7_reasonOf_33 : decode cX7_reasonOf 33 = .ok (.iaload, 1) := by decide +kernel
theorem dX7_reasonOf_34 : decode cX7_reasonOf 34 = .ok (.goto 4, 3) := by decide +kernel
theorem dX7_reasonOf_37 : decode cX7_reasonOf 37 = .ok (.iconst 0, 1) := by decide +kernel
theorem dX7_reasonOf_38 : decode cX7_reasonOf 38 = .ok (.ireturn, 1) := by decide +kernel
theorem dX7_packs_0 : decode cX7_packs 0 = .ok (.aload_n 0, 1) := by decide +kernel
theorem dX7_packs_1 : decode cX7_packs 1 = .ok (.getfield 77, 3) := by decide +kernel
theorem dX7_packs_4 : decode cX7_packs 4 = .ok (.i2l, 1) := by decide +kernel
theorem dX7_packs_5 : decode cX7_packs 5 = .ok (.aload_n 0, 1) := by decide +kernel
theorem dX7_packs_6 : decode cX7_packs 6 = .ok (.getfield 100, 3) := by decide +kernel
theorem dX7_packs_9 : decode cX7_packs 9 = .ok (.i2l, 1) := by decide +kernel
theorem dX7_packs_10 : decode cX7_packs 10 = .ok (.iconst 3, 1) := by decide +kernel
theorem dX7_packs_11 : decode cX7_packs 11 = .ok (.lshl, 1) := by decide +kernel
theorem dX7_packs_12 : decode cX7_packs 12 = .ok (.ladd, 1) := by decide +kernel
theorem dX7_packs_13 : decode cX7_packs 13 = .ok (.aload_n 0, 1) := by decide +kernel
theorem dX7_packs_14 : decode cX7_packs 14 = .ok (.getfield 103, 3) := by decide +kernel
theorem dX7_packs_17 : decode cX7_packs 17 = .ok (.i2l, 1) := by decide +kernel
theorem dX7_packs_18 : decode cX7_packs 18 = .ok (.bipush 7, 2) := by decide +kernel
theorem dX7_packs_20 : decode cX7_packs 20 = .ok (.lshl, 1) := by decide +kernel
theorem dX7_packs_21 : decode cX7_packs 21 = .ok (.ladd, 1) := by decide +kernel
theorem dX7_packs_22 : decode cX7_packs 22 = .ok (.aload_n 0, 1) := by decide +kernel
theorem dX7_packs_23 : decode cX7_packs 23 = .ok (.getfield 93, 3) := by decide +kernel
theorem dX7_packs_26 : decode cX7_packs 26 = .ok (.i2l, 1) := by decide +kernel
theorem dX7_packs_27 : decode cX7_packs 27 = .ok (.bipush 25, 2) := by decide +kernel
theorem dX7_packs_29 : decode cX7_packs 29 = .ok (.lshl, 1) := by decide +kernel
theorem dX7_packs_30 : decode cX7_packs 30 = .ok (.ladd, 1) := by decide +kernel
theorem dX7_packs_31 : decode cX7_packs 31 = .ok (.aload_n 0, 1) := by decide +kernel
theorem dX7_packs_32 : decode cX7_packs 32 = .ok (.getfield 90, 3) := by decide +kernel
theorem dX7_packs_35 : decode cX7_packs 35 = .ok (.i2l, 1) := by decide +kernel
theorem dX7_packs_36 : decode cX7_packs 36 = .ok (.bipush 32, 2) := by decide +kernel
theorem dX7_packs_38 : decode cX7_packs 38 = .ok (.lshl, 1) := by decide +kernel
theorem dX7_packs_39 : decode cX7_packs 39 = .ok (.ladd, 1) := by decide +kernel
theorem dX7_packs_40 : decode cX7_packs 40 = .ok (.aload_n 0, 1) := by decide +kernel
theorem dX7_packs_41 : decode cX7_packs 41 = .ok (.getfield 106, 3) := by decide +kernel
theorem dX7_packs_44 : decode cX7_packs 44 = .ok (.i2l, 1) := by decide +kernel
theorem dX7_packs_45 : decode cX7_packs 45 = .ok (.bipush 39, 2) := by decide +kernel
theorem dX7_packs_47 : decode cX7_packs 47 = .ok (.lshl, 1) := by decide +kernel
theorem dX7_packs_48 : decode cX7_packs 48 = .ok (.ladd, 1) := by decide +kernel
theorem dX7_packs_49 : decode cX7_packs 49 = .ok (.aload_n 0, 1) := by decide +kernel
theorem dX7_packs_50 : decode cX7_packs 50 = .ok (.getfield 87, 3) := by decide +kernel
theorem dX7_packs_53 : decode cX7_packs 53 = .ok (.i2l, 1) := by decide +kernel
theorem dX7_packs_54 : decode cX7_packs 54 = .ok (.bipush 51, 2) := by decide +kernel
theorem dX7_packs_56 : decode cX7_packs 56 = .ok (.lshl, 1) := by decide +kernel
theorem dX7_packs_57 : decode cX7_packs 57 = .ok (.ladd, 1) := by decide +kernel
theorem dX7_packs_58 : decode cX7_packs 58 = .ok (.aload_n 0, 1) := by decide +kernel
theorem dX7_packs_59 : decode cX7_packs 59 = .ok (.getfield 127, 3) := by decide +kernel
theorem dX7_packs_62 : decode cX7_packs 62 = .ok (.i2l, 1) := by decide +kernel
theorem dX7_packs_63 : decode cX7_packs 63 = .ok (.bipush 53, 2) := by decide +kernel
theorem dX7_packs_65 : decode cX7_packs 65 = .ok (.lshl, 1) := by decide +kernel
theorem dX7_packs_66 : decode cX7_packs 66 = .ok (.ladd, 1) := by decide +kernel
theorem dX7_packs_67 : decode cX7_packs 67 = .ok (.aload_n 0, 1) := by decide +kernel
theorem dX7_packs_68 : decode cX7_packs 68 = .ok (.getfield 133, 3) := by decide +kernel
theorem dX7_packs_71 : decode cX7_packs 71 = .ok (.i2l, 1) := by decide +kernel
theorem dX7_packs_72 : decode cX7_packs 72 = .ok (.bipush 56, 2) := by decide +kernel
theorem dX7_packs_74 : decode cX7_packs 74 = .ok (.lshl, 1) := by decide +kernel
theorem dX7_packs_75 : decode cX7_packs 75 = .ok (.ladd, 1) := by decide +kernel
theorem dX7_packs_76 : decode cX7_packs 76 = .ok (.lreturn, 1) := by decide +kernel
theorem dX7_unpacks_0 : decode cX7_unpacks 0 = .ok (.aload_n 0, 1) := by decide +kernel
theorem dX7_unpacks_1 : decode cX7_unpacks 1 = .ok (.lload_n 1, 1) := by decide +kernel
theorem dX7_unpacks_2 : decode cX7_unpacks 2 = .ok (.ldc2_w 175, 3) := by decide +kernel
theorem dX7_unpacks_5 : decode cX7_unpacks 5 = .ok (.land, 1) := by decide +kernel
theorem dX7_unpacks_6 : decode cX7_unpacks 6 = .ok (.l2i, 1) := by decide +kernel
theorem dX7_unpacks_7 : decode cX7_unpacks 7 = .ok (.putfield 77, 3) := by decide +kernel
theorem dX7_unpacks_10 : decode cX7_unpacks 10 = .ok (.aload_n 0, 1) := by decide +kernel
theorem dX7_unpacks_11 : decode cX7_unpacks 11 = .ok (.lload_n 1, 1) := by decide +kernel
theorem dX7_unpacks_12 : decode cX7_unpacks 12 = .ok (.iconst 3, 1) := by decide +kernel
theorem dX7_unpacks_13 : decode cX7_unpacks 13 = .ok (.lshr, 1) := by decide +kernel
theorem dX7_unpacks_14 : decode cX7_unpacks 14 = .ok (.ldc2_w 177, 3) := by decide +kernel
theorem dX7_unpacks_17 : decode cX7_unpacks 17 = .ok (.land, 1) := by decide +kernel
theorem dX7_unpacks_18 : decode cX7_unpacks 18 = .ok (.l2i, 1) := by decide +kernel
theorem dX7_unpacks_19 : decode cX7_unpacks 19 = .ok (.putfield 100, 3) := by decide +kernel
theorem dX7_unpacks_22 : decode cX7_unpacks 22 = .ok (.aload_n 0, 1) := by decide +kernel
theorem dX7_unpacks_23 : decode cX7_unpacks 23 = .ok (.lload_n 1, 1) := by decide +kernel
theorem dX7_unpacks_24 : decode cX7_unpacks 24 = .ok (.bipush 7, 2) := by decide +kernel
theorem dX7_unpacks_26 : decode cX7_unpacks 26 = .ok (.lshr, 1) := by decide +kernel
theorem dX7_unpacks_27 : decode cX7_unpacks 27 = .ok (.ldc2_w 179, 3) := by decide +kernel
theorem dX7_unpacks_30 : decode cX7_unpacks 30 = .ok (.land, 1) := by decide +kernel
theorem dX7_unpacks_31 : decode cX7_unpacks 31 = .ok (.l2i, 1) := by decide +kernel
theorem dX7_unpacks_32 : decode cX7_unpacks 32 = .ok (.putfield 103, 3) := by decide +kernel
theorem dX7_unpacks_35 : decode cX7_unpacks 35 = .ok (.aload_n 0, 1) := by decide +kernel
theorem dX7_unpacks_36 : decode cX7_unpacks 36 = .ok (.lload_n 1, 1) := by decide +kernel
theorem dX7_unpacks_37 : decode cX7_unpacks 37 = .ok (.bipush 25, 2) := by decide +kernel
theorem dX7_unpacks_39 : decode cX7_unpacks 39 = .ok (.lshr, 1) := by decide +kernel
theorem dX7_unpacks_40 : decode cX7_unpacks 40 = .ok (.ldc2_w 181, 3) := by decide +kernel
theorem dX7_unpacks_43 : decode cX7_unpacks 43 = .ok (.land, 1) := by decide +kernel
theorem dX7_unpacks_44 : decode cX7_unpacks 44 = .ok (.l2i, 1) := by decide +kernel
theorem dX7_unpacks_45 : decode cX7_unpacks 45 = .ok (.putfield 93, 3) := by decide +kernel
theorem dX7_unpacks_48 : decode cX7_unpacks 48 = .ok (.aload_n 0, 1) := by decide +kernel
theorem dX7_unpacks_49 : decode cX7_unpacks 49 = .ok (.lload_n 1, 1) := by decide +kernel
theorem dX7_unpacks_50 : decode cX7_unpacks 50 = .ok (.bipush 32, 2) := by decide +kernel
theorem dX7_unpacks_52 : decode cX7_unpacks 52 = .ok (.lshr, 1) := by decide +kernel
theorem dX7_unpacks_53 : decode cX7_unpacks 53 = .ok (.ldc2_w 181, 3) := by decide +kernel
theorem dX7_unpacks_56 : decode cX7_unpacks 56 = .ok (.land, 1) := by decide +kernel
theorem dX7_unpacks_57 : decode cX7_unpacks 57 = .ok (.l2i, 1) := by decide +kernel
theorem dX7_unpacks_58 : decode cX7_unpacks 58 = .ok (.putfield 90, 3) := by decide +kernel
theorem dX7_unpacks_61 : decode cX7_unpacks 61 = .ok (.aload_n 0, 1) := by decide +kernel
theorem dX7_unpacks_62 : decode cX7_unpacks 62 = .ok (.lload_n 1, 1) := by decide +kernel
theorem dX7_unpacks_63 : decode cX7_unpacks 63 = .ok (.bipush 39, 2) := by decide +kernel
theorem dX7_unpacks_65 : decode cX7_unpacks 65 = .ok (.lshr, 1) := by decide +kernel
theorem dX7_unpacks_66 : decode cX7_unpacks 66 = .ok (.ldc2_w 183, 3) := by decide +kernel
theorem dX7_unpacks_69 : decode cX7_unpacks 69 = .ok (.land, 1) := by decide +kernel
theorem dX7_unpacks_70 : decode cX7_unpacks 70 = .ok (.l2i, 1) := by decide +kernel
theorem dX7_unpacks_71 : decode cX7_unpacks 71 = .ok (.putfield 106, 3) := by decide +kernel
theorem dX7_unpacks_74 : decode cX7_unpacks 74 = .ok (.aload_n 0, 1) := by decide +kernel
theorem dX7_unpacks_75 : decode cX7_unpacks 75 = .ok (.lload_n 1, 1) := by decide +kernel
theorem dX7_unpacks_76 : decode cX7_unpacks 76 = .ok (.bipush 51, 2) := by decide +kernel
theorem dX7_unpacks_78 : decode cX7_unpacks 78 = .ok (.lshr, 1) := by decide +kernel
theorem dX7_unpacks_79 : decode cX7_unpacks 79 = .ok (.ldc2_w 185, 3) := by decide +kernel
theorem dX7_unpacks_82 : decode cX7_unpacks 82 = .ok (.land, 1) := by decide +kernel
theorem dX7_unpacks_83 : decode cX7_unpacks 83 = .ok (.l2i, 1) := by decide +kernel
theorem dX7_unpacks_84 : decode cX7_unpacks 84 = .ok (.putfield 87, 3) := by decide +kernel
theorem dX7_unpacks_87 : decode cX7_unpacks 87 = .ok (.aload_n 0, 1) := by decide +kernel
theorem dX7_unpacks_88 : decode cX7_unpacks 88 = .ok (.lload_n 1, 1) := by decide +kernel
theorem dX7_unpacks_89 : decode cX7_unpacks 89 = .ok (.bipush 53, 2) := by decide +kernel
theorem dX7_unpacks_91 : decode cX7_unpacks 91 = .ok (.lshr, 1) := by decide +kernel
theorem dX7_unpacks_92 : decode cX7_unpacks 92 = .ok (.ldc2_w 175, 3) := by decide +kernel
theorem dX7_unpacks_95 : decode cX7_unpacks 95 = .ok (.land, 1) := by decide +kernel
theorem dX7_unpacks_96 : decode cX7_unpacks 96 = .ok (.l2i, 1) := by decide +kernel
theorem dX7_unpacks_97 : decode cX7_unpacks 97 = .ok (.putfield 127, 3) := by decide +kernel
theorem dX7_unpacks_100 : decode cX7_unpacks 100 = .ok (.aload_n 0, 1) := by decide +kernel
theorem dX7_unpacks_101 : decode cX7_unpacks 101 = .ok (.lload_n 1, 1) := by decide +kernel
theorem dX7_unpacks_102 : decode cX7_unpacks 102 = .ok (.bipush 56, 2) := by decide +kernel
theorem dX7_unpacks_104 : decode cX7_unpacks 104 = .ok (.lshr, 1) := by decide +kernel
theorem dX7_unpacks_105 : decode cX7_unpacks 105 = .ok (.ldc2_w 175, 3) := by decide +kernel
theorem dX7_unpacks_108 : decode cX7_unpacks 108 = .ok (.land, 1) := by decide +kernel
theorem dX7_unpacks_109 : decode cX7_unpacks 109 = .ok (.l2i, 1) := by decide +kernel
theorem dX7_unpacks_110 : decode cX7_unpacks 110 = .ok (.putfield 133, 3) := by decide +kernel
theorem dX7_unpacks_113 : decode cX7_unpacks 113 = .ok (.return_, 1) := by decide +kernel
set_option maxRecDepth 20000 in
theorem ggX7_walks_X7_packs : GoodIn wsX7_walks wsX7_packs := goodIn_r _ [11, 4, 5, 12, 13, 14, 15, 16, 17, 18, 86, 87, 88, 89, 90, 91, 92, 93, 94, 95, 96, 97, 98, 99, 100, 101, 102, 103, 104, 105, 106, 107, 108, 109, 110, 111, 112, 113, 114, 115, 116, 117, 118, 119, 120] (by decide +kernel) (by decide +kernel)
set_option maxRecDepth 20000 in
theorem gX7_walks_X7_packs : GoodIn wsX7_walks (wsV RX7 187 RX7 yX7_packs wsX7_packs) := goodIn_app (goodIn_of _ (by decide +kernel)) ggX7_walks_X7_packs
set_option maxRecDepth 20000 in
theorem ggX7_walks_X7_unpacks : GoodIn wsX7_walks wsX7_unpacks := goodIn_r _ [22, 23, 4, 24, 5, 25, 12, 26, 13, 14, 27, 15, 28, 16, 17, 18, 86, 87, 88, 89, 90, 91, 92, 93, 94, 95, 96, 97, 98, 99, 100, 101, 102, 103, 104, 105, 106, 107, 108, 109, 110, 111, 112, 113, 114, 115, 116, 117, 118, 119, 120] (by decide +kernel) (by decide +kernel)
set_option maxRecDepth 20000 in
theorem gX7_walks_X7_unpacks : GoodIn wsX7_walks (wsV RX7 197 RX7 yX7_unpacks wsX7_unpacks) := goodIn_app (goodIn_of _ (by decide +kernel)) ggX7_walks_X7_unpacks
set_option maxRecDepth 20000 in
theorem ggX7_walks_X7_plays : GoodIn wsX7_walks wsX7_plays := goodIn_r _ [32, 17, 18, 12, 33, 34, 35, 10, 36, 16, 37, 38, 39, 40, 41, 42, 43, 44, 45, 4, 46, 14, 13, 47, 48, 49, 50, 51, 52, 53, 54, 55, 56, 57, 58, 59, 60, 5, 15, 61, 62, 63, 64, 65, 66, 67, 68, 69, 70, 71, 72, 73, 74, 75, 76, 77, 78, 79, 80, 81, 86, 87, 88, 89, 90, 91, 92, 93, 94, 95, 96, 97, 98, 99, 100, 101, 102, 103, 104, 105, 106, 107, 108, 109, 110, 111, 112, 113, 114, 115, 116, 117, 118, 119, 120] (by decide +kernel) (by decide +kernel)
set_option maxRecDepth 20000 in
theorem gX7_walks_X7_plays : GoodIn wsX7_walks (wsV RX7 149 RX7 yX7_plays wsX7_plays) := goodIn_app (goodIn_of _ (by decide +kernel)) ggX7_walks_X7_plays
set_option maxRecDepth 20000 in
theorem ggX7_walks_X7_adds : GoodIn wsX7_walks wsX7_adds := goodIn_r _ [85, 6, 7, 8, 9, 10, 11, 4, 5, 12, 13, 14, 15, 16, 17, 18, 86, 87, 88, 89, 90, 91, 92, 93, 94, 95, 96, 97, 98, 99, 100, 101, 102, 103, 104, 105, 106, 107, 108, 109, 110, 111, 112, 113, 114, 115, 116, 117, 118, 119, 120] (by decide +kernel) (by decide +kernel)
set_option maxRecDepth 20000 in
theorem gX7_walks_X7_adds : GoodIn wsX7_walks (wsV RX7 201 RX7 yX7_adds wsX7_adds) := goodIn_app (goodIn_of _ (by decide +kernel)) ggX7_walks_X7_adds
theorem dX7_walks_0 : decode cX7_walks 0 = .ok (.aload_n 0, 1) := by decide +kernel
theorem dX7_walks_1 : decode cX7_walks 1 = .ok (.invokevirtual 187, 3) := by decide +kernel
theorem dX7_walks_4 : decode cX7_walks 4 = .ok (.lstore_n 2, 1) := by decide +kernel
theorem dX7_walks_5 : decode cX7_walks 5 = .ok (.iconst 0, 1) := by decide +kernel
theorem dX7_walks_6 : decode cX7_walks 6 = .ok (.istore 4, 2) := by decide +kernel
theorem dX7_walks_8 : decode cX7_walks 8 = .ok (.aload_n 0, 1) := by decide +kernel
theorem dX7_walks_9 : decode cX7_walks 9 = .ok (.iconst 0, 1) := by decide +kernel
theorem dX7_walks_10 : decode cX7_walks 10 = .ok (.putfield 191, 3) := by decide +kernel
theorem dX7_walks_13 : decode cX7_walks 13 = .ok (.aload_n 0, 1) := by decide +kernel
theorem dX7_walks_14 : decode cX7_walks 14 = .ok (.getfield 56, 3) := by decide +kernel
theorem dX7_walks_17 : decode cX7_walks 17 = .ok (.iconst 0, 1) := by decide +kernel
theorem dX7_walks_18 : decode cX7_walks 18 = .ok (.lload_n 2, 1) := by decide +kernel
theorem dX7_walks_19 : decode cX7_walks 19 = .ok (.lastore, 1) := by decide +kernel
theorem dX7_walks_20 : decode cX7_walks 20 = .ok (.aload_n 0, 1) := by decide +kernel
theorem dX7_walks_21 : decode cX7_walks 21 = .ok (.iconst 1, 1) := by decide +kernel
theorem dX7_walks_22 : decode cX7_walks 22 = .ok (.putfield 194, 3) := by decide +kernel
theorem dX7_walks_25 : decode cX7_walks 25 = .ok (.iconst 1, 1) := by decide +kernel
theorem dX7_walks_26 : decode cX7_walks 26 = .ok (.istore 5, 2) := by decide +kernel
theorem dX7_walks_28 : decode cX7_walks 28 = .ok (.iload 5, 2) := by decide +kernel
theorem dX7_walks_30 : decode cX7_walks 30 = .ok (.iload_n 1, 1) := by decide +kernel
theorem dX7_walks_31 : decode cX7_walks 31 = .ok (.if_icmp .gt 180, 3) := by decide +kernel
theorem dX7_walks_34 : decode cX7_walks 34 = .ok (.iconst 0, 1) := by decide +kernel
theorem dX7_walks_35 : decode cX7_walks 35 = .ok (.istore 6, 2) := by decide +kernel
theorem dX7_walks_37 : decode cX7_walks 37 = .ok (.iconst 0, 1) := by decide +kernel
theorem dX7_walks_38 : decode cX7_walks 38 = .ok (.istore 7, 2) := by decide +kernel
theorem dX7_walks_40 : decode cX7_walks 40 = .ok (.iload 7, 2) := by decide +kernel
theorem dX7_walks_42 : decode cX7_walks 42 = .ok (.aload_n 0, 1) := by decide +kernel
theorem dX7_walks_43 : decode cX7_walks 43 = .ok (.getfield 194, 3) := by decide +kernel
theorem dX7_walks_46 : decode cX7_walks 46 = .ok (.if_icmp .ge 121, 3) := by decide +kernel
theorem dX7_walks_49 : decode cX7_walks 49 = .ok (.iconst 0, 1) := by decide +kernel
theorem dX7_walks_50 : decode cX7_walks 50 = .ok (.istore 8, 2) := by decide +kernel
theorem dX7_walks_52 : decode cX7_walks 52 = .ok (.iload 8, 2) := by decide +kernel
theorem dX7_walks_54 : decode cX7_walks 54 = .ok (.bipush 64, 2) := by decide +kernel
theorem dX7_walks_56 : decode cX7_walks 56 = .ok (.if_icmp .ge 105, 3) := by decide +kernel
theorem dX7_walks_59 : decode cX7_walks 59 = .ok (.aload_n 0, 1) := by decide +kernel
theorem dX7_walks_60 : decode cX7_walks 60 = .ok (.aload_n 0, 1) := by decide +kernel
theorem dX7_walks_61 : decode cX7_walks 61 = .ok (.getfield 56, 3) := by decide +kernel
theorem dX7_walks_64 : decode cX7_walks 64 = .ok (.iload 7, 2) := by decide +kernel
theorem dX7_walks_66 : decode cX7_walks 66 = .ok (.laload, 1) := by decide +kernel
theorem dX7_walks_67 : decode cX7_walks 67 = .ok (.invokevirtual 197, 3) := by decide +kernel
theorem dX7_walks_70 : decode cX7_walks 70 = .ok (.aload_n 0, 1) := by decide +kernel
theorem dX7_walks_71 : decode cX7_walks 71 = .ok (.getfield 77, 3) := by decide +kernel
theorem dX7_walks_74 : decode cX7_walks 74 = .ok (.bipush 6, 2) := by decide +kernel
theorem dX7_walks_76 : decode cX7_walks 76 = .ok (.if_icmp .ne 7, 3) := by decide +kernel
theorem dX7_walks_79 : decode cX7_walks 79 = .ok (.iconst 1, 1) := by decide +kernel
theorem dX7_walks_80 : decode cX7_walks 80 = .ok (.goto 4, 3) := by decide +kernel
theorem dX7_walks_83 : decode cX7_walks 83 = .ok (.iconst 0, 1) := by decide +kernel
theorem dX7_walks_84 : decode cX7_walks 84 = .ok (.istore 9, 2) := by decide +kernel
theorem dX7_walks_86 : decode cX7_walks 86 = .ok (.aload_n 0, 1) := by decide +kernel
theorem dX7_walks_87 : decode cX7_walks 87 = .ok (.iload 8, 2) := by decide +kernel
theorem dX7_walks_89 : decode cX7_walks 89 = .ok (.invokevirtual 149, 3) := by decide +kernel
theorem dX7_walks_92 : decode cX7_walks 92 = .ok (.iload 4, 2) := by decide +kernel
theorem dX7_walks_94 : decode cX7_walks 94 = .ok (.iconst 1, 1) := by decide +kernel
theorem dX7_walks_95 : decode cX7_walks 95 = .ok (.aload_n 0, 1) := by decide +kernel
theorem dX7_walks_96 : decode cX7_walks 96 = .ok (.getfield 77, 3) := by decide +kernel
theorem dX7_walks_99 : decode cX7_walks 99 = .ok (.ishl, 1) := by decide +kernel
theorem dX7_walks_100 : decode cX7_walks 100 = .ok (.ior, 1) := by decide +kernel
theorem dX7_walks_101 : decode cX7_walks 101 = .ok (.istore 4, 2) := by decide +kernel
theorem dX7_walks_103 : decode cX7_walks 103 = .ok (.aload_n 0, 1) := by decide +kernel
theorem dX7_walks_104 : decode cX7_walks 104 = .ok (.dup, 1) := by decide +kernel
theorem dX7_walks_105 : decode cX7_walks 105 = .ok (.getfield 191, 3) := by decide +kernel
theorem dX7_walks_108 : decode cX7_walks 108 = .ok (.aload_n 0, 1) := by decide +kernel
theorem dX7_walks_109 : decode cX7_walks 109 = .ok (.getfield 77, 3) := by decide +kernel
theorem dX7_walks_112 : decode cX7_walks 112 = .ok (.bipush 6, 2) := by decide +kernel
theorem dX7_walks_114 : decode cX7_walks 114 = .ok (.if_icmp .ne 17, 3) := by decide +kernel
theorem dX7_walks_117 : decode cX7_walks 117 = .ok (.iload 9, 2) := by decide +kernel
theorem dX7_walks_119 : decode cX7_walks 119 = .ok (.ifCond .ne 12, 3) := by decide +kernel
theorem dX7_walks_122 : decode cX7_walks 122 = .ok (.iconst 1, 1) := by decide +kernel
theorem dX7_walks_123 : decode cX7_walks 123 = .ok (.aload_n 0, 1) := by decide +kernel
theorem dX7_walks_124 : decode cX7_walks 124 = .ok (.getfield 100, 3) := by decide +kernel
theorem dX7_walks_127 : decode cX7_walks 127 = .ok (.ishl, 1) := by decide +kernel
theorem dX7_walks_128 : decode cX7_walks 128 = .ok (.goto 4, 3) := by decide +kernel
theorem dX7_walks_131 : decode cX7_walks 131 = .ok (.iconst 0, 1) := by decide +kernel
theorem dX7_walks_132 : decode cX7_walks 132 = .ok (.ior, 1) := by decide +kernel
theorem dX7_walks_133 : decode cX7_walks 133 = .ok (.putfield 191, 3) := by decide +kernel
theorem dX7_walks_136 : decode cX7_walks 136 = .ok (.iload 5, 2) := by decide +kernel
theorem dX7_walks_138 : decode cX7_walks 138 = .ok (.iload_n 1, 1) := by decide +kernel
theorem dX7_walks_139 : decode cX7_walks 139 = .ok (.if_icmp .ge 12, 3) := by decide +kernel
theorem dX7_walks_142 : decode cX7_walks 142 = .ok (.aload_n 0, 1) := by decide +kernel
theorem dX7_walks_143 : decode cX7_walks 143 = .ok (.iload 6, 2) := by decide +kernel
theorem dX7_walks_145 : decode cX7_walks 145 = .ok (.invokevirtual 201, 3) := by decide +kernel
theorem dX7_walks_148 : decode cX7_walks 148 = .ok (.goto 5, 3) := by decide +kernel
theorem dX7_walks_151 : decode cX7_walks 151 = .ok (.iload 6, 2) := by decide +kernel
theorem dX7_walks_153 : decode cX7_walks 153 = .ok (.istore 6, 2) := by decide +kernel
theorem dX7_walks_155 : decode cX7_walks 155 = .ok (.iinc 8 1, 3) := by decide +kernel
theorem dX7_walks_158 : decode cX7_walks 158 = .ok (.goto (-106), 3) := by decide +kernel
theorem dX7_walks_161 : decode cX7_walks 161 = .ok (.iinc 7 1, 3) := by decide +kernel
theorem dX7_walks_164 : decode cX7_walks 164 = .ok (.goto (-124), 3) := by decide +kernel
theorem dX7_walks_167 : decode cX7_walks 167 = .ok (.aload_n 0, 1) := by decide +kernel
theorem dX7_walks_168 : decode cX7_walks 168 = .ok (.iload 6, 2) := by decide +kernel
theorem dX7_walks_170 : decode cX7_walks 170 = .ok (.putfield 194, 3) := by decide +kernel
theorem dX7_walks_173 : decode cX7_walks 173 = .ok (.iconst 0, 1) := by decide +kernel
theorem dX7_walks_174 : decode cX7_walks 174 = .ok (.istore 7, 2) := by decide +kernel
theorem dX7_walks_176 : decode cX7_walks 176 = .ok (.iload 7, 2) := by decide +kernel
theorem dX7_walks_178 : decode cX7_walks 178 = .ok (.aload_n 0, 1) := by decide +kernel
theorem dX7_walks_179 : decode cX7_walks 179 = .ok (.getfield 194, 3) := by decide +kernel
theorem dX7_walks_182 : decode cX7_walks 182 = .ok (.if_icmp .ge 23, 3) := by decide +kernel
theorem dX7_walks_185 : decode cX7_walks 185 = .ok (.aload_n 0, 1) := by decide +kernel
theorem dX7_walks_186 : decode cX7_walks 186 = .ok (.getfield 56, 3) := by decide +kernel
theorem dX7_walks_189 : decode cX7_walks 189 = .ok (.iload 7, 2) := by decide +kernel
theorem dX7_walks_191 : decode cX7_walks 191 = .ok (.aload_n 0, 1) := by decide +kernel
theorem dX7_walks_192 : decode cX7_walks 192 = .ok (.getfield 60, 3) := by decide +kernel
theorem dX7_walks_195 : decode cX7_walks 195 = .ok (.iload 7, 2) := by decide +kernel
theorem dX7_walks_197 : decode cX7_walks 197 = .ok (.laload, 1) := by decide +kernel
theorem dX7_walks_198 : decode cX7_walks 198 = .ok (.lastore, 1) := by decide +kernel
theorem dX7_walks_199 : decode cX7_walks 199 = .ok (.iinc 7 1, 3) := by decide +kernel
theorem dX7_walks_202 : decode cX7_walks 202 = .ok (.goto (-26), 3) := by decide +kernel
theorem dX7_walks_205 : decode cX7_walks 205 = .ok (.iinc 5 1, 3) := by decide +kernel
theorem dX7_walks_208 : decode cX7_walks 208 = .ok (.goto (-180), 3) := by decide +kernel
theorem dX7_walks_211 : decode cX7_walks 211 = .ok (.aload_n 0, 1) := by decide +kernel
theorem dX7_walks_212 : decode cX7_walks 212 = .ok (.lload_n 2, 1) := by decide +kernel
theorem dX7_walks_213 : decode cX7_walks 213 = .ok (.invokevirtual 197, 3) := by decide +kernel
theorem dX7_walks_216 : decode cX7_walks 216 = .ok (.iload 4, 2) := by decide +kernel
theorem dX7_walks_218 : decode cX7_walks 218 = .ok (.ireturn, 1) := by decide +kernel
set_option maxRecDepth 20000 in
theorem ggX7_adds_X7_packs : GoodIn wsX7_adds wsX7_packs := goodIn_r _ [6, 7, 8, 9, 10, 11, 12, 13, 14, 15, 16, 17, 18, 19, 20, 21, 22, 23, 24, 25, 26, 27, 28, 29, 30, 31, 32, 33, 34, 35, 36, 37, 38, 39, 40, 41, 42, 43, 44, 45, 46, 47, 48, 49, 50] (by decide +kernel) (by decide +kernel)
set_option maxRecDepth 20000 in
theorem gX7_adds_X7_packs : GoodIn wsX7_adds (wsV RX7 187 RX7 yX7_packs wsX7_packs) := goodIn_app (goodIn_of _ (by decide +kernel)) ggX7_adds_X7_packs
theorem dX7_adds_0 : decode cX7_adds 0 = .ok (.aload_n 0, 1) := by decide +kernel
theorem dX7_adds_1 : decode cX7_adds 1 = .ok (.invokevirtual 187, 3) := by decide +kernel
theorem dX7_adds_4 : decode cX7_adds 4 = .ok (.lstore_n 2, 1) := by decide +kernel
theorem dX7_adds_5 : decode cX7_adds 5 = .ok (.iconst 1, 1) := by decide +kernel
theorem dX7_adds_6 : decode cX7_adds 6 = .ok (.istore 4, 2) := by decide +kernel
theorem dX7_adds_8 : decode cX7_adds 8 = .ok (.iconst 0, 1) := by decide +kernel
theorem dX7_adds_9 : decode cX7_adds 9 = .ok (.istore 5, 2) := by decide +kernel
theorem dX7_adds_11 : decode cX7_adds 11 = .ok (.iload 5, 2) := by decide +kernel
theorem dX7_adds_13 : decode cX7_adds 13 = .ok (.iload_n 1, 1) := by decide +kernel
theorem dX7_adds_14 : decode cX7_adds 14 = .ok (.if_icmp .ge 33, 3) := by decide +kernel
theorem dX7_adds_17 : decode cX7_adds 17 = .ok (.iload 4, 2) := by decide +kernel
theorem dX7_adds_19 : decode cX7_adds 19 = .ok (.ifCond .eq 28, 3) := by decide +kernel
theorem dX7_adds_22 : decode cX7_adds 22 = .ok (.aload_n 0, 1) := by decide +kernel
theorem dX7_adds_23 : decode cX7_adds 23 = .ok (.getfield 60, 3) := by decide +kernel
theorem dX7_adds_26 : decode cX7_adds 26 = .ok (.iload 5, 2) := by decide +kernel
theorem dX7_adds_28 : decode cX7_adds 28 = .ok (.laload, 1) := by decide +kernel
theorem dX7_adds_29 : decode cX7_adds 29 = .ok (.lload_n 2, 1) := by decide +kernel
theorem dX7_adds_30 : decode cX7_adds 30 = .ok (.lcmp, 1) := by decide +kernel
theorem dX7_adds_31 : decode cX7_adds 31 = .ok (.ifCond .eq 7, 3) := by decide +kernel
theorem dX7_adds_34 : decode cX7_adds 34 = .ok (.iconst 1, 1) := by decide +kernel
theorem dX7_adds_35 : decode cX7_adds 35 = .ok (.goto 4, 3) := by decide +kernel
theorem dX7_adds_38 : decode cX7_adds 38 = .ok (.iconst 0, 1) := by decide +kernel
theorem dX7_adds_39 : decode cX7_adds 39 = .ok (.istore 4, 2) := by decide +kernel
theorem dX7_adds_41 : decode cX7_adds 41 = .ok (.iinc 5 1, 3) := by decide +kernel
theorem dX7_adds_44 : decode cX7_adds 44 = .ok (.goto (-33), 3) := by decide +kernel
theorem dX7_adds_47 : decode cX7_adds 47 = .ok (.iload 4, 2) := by decide +kernel
theorem dX7_adds_49 : decode cX7_adds 49 = .ok (.ifCond .eq 10, 3) := by decide +kernel
theorem dX7_adds_52 : decode cX7_adds 52 = .ok (.aload_n 0, 1) := by decide +kernel
theorem dX7_adds_53 : decode cX7_adds 53 = .ok (.getfield 60, 3) := by decide +kernel
theorem dX7_adds_56 : decode cX7_adds 56 = .ok (.iload_n 1, 1) := by decide +kernel
theorem dX7_adds_57 : decode cX7_adds 57 = .ok (.lload_n 2, 1) := by decide +kernel
theorem dX7_adds_58 : decode cX7_adds 58 = .ok (.lastore, 1) := by decide +kernel
theorem dX7_adds_59 : decode cX7_adds 59 = .ok (.iload 4, 2) := by decide +kernel
theorem dX7_adds_61 : decode cX7_adds 61 = .ok (.ifCond .eq 9, 3) := by decide +kernel
theorem dX7_adds_64 : decode cX7_adds 64 = .ok (.iload_n 1, 1) := by decide +kernel
theorem dX7_adds_65 : decode cX7_adds 65 = .ok (.iconst 1, 1) := by decide +kernel
theorem dX7_adds_66 : decode cX7_adds 66 = .ok (.iadd, 1) := by decide +kernel
theorem dX7_adds_67 : decode cX7_adds 67 = .ok (.goto 4, 3) := by decide +kernel
theorem dX7_adds_70 : decode cX7_adds 70 = .ok (.iload_n 1, 1) := by decide +kernel
theorem dX7_adds_71 : decode cX7_adds 71 = .ok (.ireturn, 1) := by decide +kernel
set_option maxRecDepth 20000 in
theorem ggX7_couldBe_X7_in : GoodIn wsX7_couldBe wsX7_in := goodIn_r _ [4] (by decide +kernel) (by decide +kernel)
set_option maxRecDepth 20000 in
theorem gX7_couldBe_X7_in : GoodIn wsX7_couldBe (va_wsS RX7 66 yX7_in wsX7_in) := goodIn_app (goodIn_of _ (by decide +kernel)) ggX7_couldBe_X7_in
set_option maxRecDepth 20000 in
theorem ggX7_couldBe_X7_asks : GoodIn wsX7_couldBe wsX7_asks := goodIn_r _ [8, 9, 98, 99, 100, 101, 102, 103, 104, 105, 106, 107, 108, 109, 110, 111, 112, 113, 114, 115, 116, 117, 118, 119, 120, 121, 122, 123, 124, 125, 126, 127, 128, 129, 130, 131, 132] (by decide +kernel) (by decide +kernel)
set_option maxRecDepth 20000 in
theorem gX7_couldBe_X7_asks : GoodIn wsX7_couldBe (wsV RX7 70 RX7 yX7_asks wsX7_asks) := goodIn_app (goodIn_of _ (by decide +kernel)) ggX7_couldBe_X7_asks
set_option maxRecDepth 20000 in
theorem ggX7_couldBe_X7_walks : GoodIn wsX7_couldBe wsX7_walks := goodIn_r _ [13, 14, 15, 16, 17, 18, 19, 20, 21, 22, 3, 23, 24, 25, 26, 27, 28, 29, 30, 31, 32, 33, 34, 35, 36, 37, 38, 39, 40, 41, 42, 43, 44, 45, 46, 47, 48, 49, 50, 51, 52, 53, 54, 55, 56, 57, 58, 59, 60, 61, 62, 63, 64, 65, 66, 67, 68, 69, 70, 71, 72, 73, 74, 75, 76, 77, 78, 79, 80, 81, 82, 83, 84, 85, 86, 87, 88, 89, 90, 91, 92, 93, 94, 95, 96, 97, 98, 99, 100, 101, 102, 103, 104, 105, 106, 107, 108, 109, 110, 111, 112, 113, 114, 115, 116, 117, 118, 119, 120, 121, 122, 123, 124, 125, 126, 127, 128, 129, 130, 131, 132] (by decide +kernel) (by decide +kernel)
set_option maxRecDepth 20000 in
theorem gX7_couldBe_X7_walks : GoodIn wsX7_couldBe (wsV RX7 204 RX7 yX7_walks wsX7_walks) := goodIn_app (goodIn_of _ (by decide +kernel)) ggX7_couldBe_X7_walks
set_option maxRecDepth 20000 in
theorem ggX7_couldBe_X7_has : GoodIn wsX7_couldBe wsX7_has := goodIn_r _ [53] (by decide +kernel) (by decide +kernel)
set_option maxRecDepth 20000 in
theorem gX7_couldBe_X7_has : GoodIn wsX7_couldBe (va_wsS RX7 83 yX7_has wsX7_has) := goodIn_app (goodIn_of _ (by decide +kernel)) ggX7_couldBe_X7_has
theorem dX7_couldBe_0 : decode cX7_couldBe 0 = .ok (.aload_n 0, 1) := by decide +kernel
theorem dX7_couldBe_1 : decode cX7_couldBe 1 = .ok (.iload_n 1, 1) := by decide +kernel
theorem dX7_couldBe_2 : decode cX7_couldBe 2 = .ok (.iconst 0, 1) := by decide +kernel
theorem dX7_couldBe_3 : decode cX7_couldBe 3 = .ok (.bipush 6, 2) := by decide +kernel
theorem dX7_couldBe_5 : decode cX7_couldBe 5 = .ok (.invokestatic 66, 3) := by decide +kernel
theorem dX7_couldBe_8 : decode cX7_couldBe 8 = .ok (.ifCond .eq 16, 3) := by decide +kernel
theorem dX7_couldBe_11 : decode cX7_couldBe 11 = .ok (.iload_n 2, 1) := by decide +kernel
theorem dX7_couldBe_12 : decode cX7_couldBe 12 = .ok (.iconst 1, 1) := by decide +kernel
theorem dX7_couldBe_13 : decode cX7_couldBe 13 = .ok (.iconst 3, 1) := by decide +kernel
theorem dX7_couldBe_14 : decode cX7_couldBe 14 = .ok (.invokestatic 66, 3) := by decide +kernel
theorem dX7_couldBe_17 : decode cX7_couldBe 17 = .ok (.ifCond .eq 7, 3) := by decide +kernel
theorem dX7_couldBe_20 : decode cX7_couldBe 20 = .ok (.iconst 1, 1) := by decide +kernel
theorem dX7_couldBe_21 : decode cX7_couldBe 21 = .ok (.goto 4, 3) := by decide +kernel
theorem dX7_couldBe_24 : decode cX7_couldBe 24 = .ok (.iconst 0, 1) := by decide +kernel
theorem dX7_couldBe_25 : decode cX7_couldBe 25 = .ok (.invokevirtual 70, 3) := by decide +kernel
theorem dX7_couldBe_28 : decode cX7_couldBe 28 = .ok (.ifCond .eq 19, 3) := by decide +kernel
theorem dX7_couldBe_31 : decode cX7_couldBe 31 = .ok (.aload_n 0, 1) := by decide +kernel
theorem dX7_couldBe_32 : decode cX7_couldBe 32 = .ok (.iload_n 2, 1) := by decide +kernel
theorem dX7_couldBe_33 : decode cX7_couldBe 33 = .ok (.invokevirtual 204, 3) := by decide +kernel
theorem dX7_couldBe_36 : decode cX7_couldBe 36 = .ok (.iload_n 1, 1) := by decide +kernel
theorem dX7_couldBe_37 : decode cX7_couldBe 37 = .ok (.invokestatic 83, 3) := by decide +kernel
theorem dX7_couldBe_40 : decode cX7_couldBe 40 = .ok (.ifCond .eq 7, 3) := by decide +kernel
theorem dX7_couldBe_43 : decode cX7_couldBe 43 = .ok (.iconst 1, 1) := by decide +kernel
theorem dX7_couldBe_44 : decode cX7_couldBe 44 = .ok (.goto 4, 3) := by decide +kernel
theorem dX7_couldBe_47 : decode cX7_couldBe 47 = .ok (.iconst 0, 1) := by decide +kernel
theorem dX7_couldBe_48 : decode cX7_couldBe 48 = .ok (.ireturn, 1) := by decide +kernel
set_option maxRecDepth 20000 in
theorem ggX7_reasonsAhead_X7_in : GoodIn wsX7_reasonsAhead wsX7_in := goodIn_r _ [5] (by decide +kernel) (by decide +kernel)
set_option maxRecDepth 20000 in
theorem gX7_reasonsAhead_X7_in : GoodIn wsX7_reasonsAhead (va_wsS RX7 66 yX7_in wsX7_in) := goodIn_app (goodIn_of _ (by decide +kernel)) ggX7_reasonsAhead_X7_in
set_option maxRecDepth 20000 in
theorem ggX7_reasonsAhead_X7_asks : GoodIn wsX7_reasonsAhead wsX7_asks := goodIn_r _ [9, 10, 98, 99, 100, 101, 102, 103, 104, 105, 106, 107, 108, 109, 110, 111, 112, 113, 114, 115, 116, 117, 118, 119, 120, 121, 122, 123, 124, 125, 126, 127, 128, 129, 130, 131, 132] (by decide +kernel) (by decide +kernel)
set_option maxRecDepth 20000 in
theorem gX7_reasonsAhead_X7_asks : GoodIn wsX7_reasonsAhead (wsV RX7 70 RX7 yX7_asks wsX7_asks) := goodIn_app (goodIn_of _ (by decide +kernel)) ggX7_reasonsAhead_X7_asks
set_option maxRecDepth 20000 in
theorem ggX7_reasonsAhead_X7_walks : GoodIn wsX7_reasonsAhead wsX7_walks := goodIn_r _ [14, 1, 15, 16, 17, 18, 19, 20, 21, 22, 4, 23, 24, 25, 26, 27, 28, 29, 30, 31, 32, 33, 34, 35, 36, 37, 38, 39, 40, 41, 42, 43, 44, 45, 46, 47, 48, 49, 50, 51, 52, 53, 54, 55, 56, 57, 58, 59, 60, 61, 62, 63, 64, 65, 66, 67, 68, 69, 70, 71, 72, 73, 74, 75, 76, 77, 78, 79, 80, 81, 82, 83, 84, 85, 86, 87, 88, 89, 90, 91, 92, 93, 94, 95, 96, 97, 98, 99, 100, 101, 102, 103, 104, 105, 106, 107, 108, 109, 110, 111, 112, 113, 114, 115, 116, 117, 118, 119, 120, 121, 122, 123, 124, 125, 126, 127, 128, 129, 130, 131, 132] (by decide +kernel) (by decide +kernel)
set_option maxRecDepth 20000 in
theorem gX7_reasonsAhead_X7_walks : GoodIn wsX7_reasonsAhead (wsV RX7 204 RX7 yX7_walks wsX7_walks) := goodIn_app (goodIn_of _ (by decide +kernel)) ggX7_reasonsAhead_X7_walks
theorem dX7_reasonsAhead_0 : decode cX7_reasonsAhead 0 = .ok (.aload_n 0, 1) := by decide +kernel
theorem dX7_reasonsAhead_1 : decode cX7_reasonsAhead 1 = .ok (.iload_n 1, 1) := by decide +kernel
theorem dX7_reasonsAhead_2 : decode cX7_reasonsAhead 2 = .ok (.iconst 1, 1) := by decide +kernel
theorem dX7_reasonsAhead_3 : decode cX7_reasonsAhead 3 = .ok (.iconst 3, 1) := by decide +kernel
theorem dX7_reasonsAhead_4 : decode cX7_reasonsAhead 4 = .ok (.invokestatic 66, 3) := by decide +kernel
theorem dX7_reasonsAhead_7 : decode cX7_reasonsAhead 7 = .ok (.invokevirtual 70, 3) := by decide +kernel
theorem dX7_reasonsAhead_10 : decode cX7_reasonsAhead 10 = .ok (.ifCond .ne 5, 3) := by decide +kernel
theorem dX7_reasonsAhead_13 : decode cX7_reasonsAhead 13 = .ok (.iconst 0, 1) := by decide +kernel
theorem dX7_reasonsAhead_14 : decode cX7_reasonsAhead 14 = .ok (.ireturn, 1) := by decide +kernel
theorem dX7_reasonsAhead_15 : decode cX7_reasonsAhead 15 = .ok (.aload_n 0, 1) := by decide +kernel
theorem dX7_reasonsAhead_16 : decode cX7_reasonsAhead 16 = .ok (.iload_n 1, 1) := by decide +kernel
theorem dX7_reasonsAhead_17 : decode cX7_reasonsAhead 17 = .ok (.invokevirtual 204, 3) := by decide +kernel
theorem dX7_reasonsAhead_20 : decode cX7_reasonsAhead 20 = .ok (.pop, 1) := by decide +kernel
theorem dX7_reasonsAhead_21 : decode cX7_reasonsAhead 21 = .ok (.aload_n 0, 1) := by decide +kernel
theorem dX7_reasonsAhead_22 : decode cX7_reasonsAhead 22 = .ok (.getfield 191, 3) := by decide +kernel
theorem dX7_reasonsAhead_25 : decode cX7_reasonsAhead 25 = .ok (.ireturn, 1) := by decide +kernel
set_option maxRecDepth 20000 in
theorem ggX7_toPilot_X7_packs : GoodIn wsX7_toPilot wsX7_packs := goodIn_r _ [8, 2, 9, 10, 11, 12, 13, 14, 15, 16, 80, 81, 82, 83, 84, 85, 86, 87, 88, 89, 90, 91, 92, 93, 94, 95, 96, 97, 98, 99, 100, 101, 102, 103, 104, 105, 106, 107, 108, 109, 110, 111, 112, 113, 114] (by decide +kernel) (by decide +kernel)
set_option maxRecDepth 20000 in
theorem gX7_toPilot_X7_packs : GoodIn wsX7_toPilot (wsV RX7 187 RX7 yX7_packs wsX7_packs) := goodIn_app (goodIn_of _ (by decide +kernel)) ggX7_toPilot_X7_packs
set_option maxRecDepth 20000 in
theorem ggX7_toPilot_X7_plays : GoodIn wsX7_toPilot wsX7_plays := goodIn_r _ [20, 15, 16, 10, 21, 22, 23, 7, 24, 14, 25, 26, 27, 28, 29, 30, 31, 32, 33, 2, 34, 12, 11, 35, 36, 37, 38, 39, 40, 41, 42, 43, 44, 45, 46, 47, 48, 9, 13, 49, 50, 51, 52, 53, 54, 55, 56, 57, 58, 59, 60, 61, 62, 63, 64, 65, 66, 67, 68, 69, 80, 81, 82, 83, 84, 85, 86, 87, 88, 89, 90, 91, 92, 93, 94, 95, 96, 97, 98, 99, 100, 101, 102, 103, 104, 105, 106, 107, 108, 109, 110, 111, 112, 113, 114] (by decide +kernel) (by decide +kernel)
set_option maxRecDepth 20000 in
theorem gX7_toPilot_X7_plays : GoodIn wsX7_toPilot (wsV RX7 149 RX7 yX7_plays wsX7_plays) := goodIn_app (goodIn_of _ (by decide +kernel)) ggX7_toPilot_X7_plays
set_option maxRecDepth 20000 in
theorem ggX7_toPilot_X7_unpacks : GoodIn wsX7_toPilot wsX7_unpacks := goodIn_r _ [73, 74, 2, 75, 9, 76, 10, 77, 11, 12, 78, 13, 79, 14, 15, 16, 80, 81, 82, 83, 84, 85, 86, 87, 88, 89, 90, 91, 92, 93, 94, 95, 96, 97, 98, 99, 100, 101, 102, 103, 104, 105, 106, 107, 108, 109, 110, 111, 112, 113, 114] (by decide +kernel) (by decide +kernel)
set_option maxRecDepth 20000 in
theorem gX7_toPilot_X7_unpacks : GoodIn wsX7_toPilot (wsV RX7 197 RX7 yX7_unpacks wsX7_unpacks) := goodIn_app (goodIn_of _ (by decide +kernel)) ggX7_toPilot_X7_unpacks
theorem dX7_toPilot_0 : decode cX7_toPilot 0 = .ok (.aload_n 0, 1) := by decide +kernel
theorem dX7_toPilot_1 : decode cX7_toPilot 1 = .ok (.iconst 0, 1) := by decide +kernel
theorem dX7_toPilot_2 : decode cX7_toPilot 2 = .ok (.putfield 63, 3) := by decide +kernel
theorem dX7_toPilot_5 : decode cX7_toPilot 5 = .ok (.aload_n 0, 1) := by decide +kernel
theorem dX7_toPilot_6 : decode cX7_toPilot 6 = .ok (.getfield 77, 3) := by decide +kernel
theorem dX7_toPilot_9 : decode cX7_toPilot 9 = .ok (.iconst 2, 1) := by decide +kernel
theorem dX7_toPilot_10 : decode cX7_toPilot 10 = .ok (.if_icmp .eq 11, 3) := by decide +kernel
theorem dX7_toPilot_13 : decode cX7_toPilot 13 = .ok (.aload_n 0, 1) := by decide +kernel
theorem dX7_toPilot_14 : decode cX7_toPilot 14 = .ok (.getfield 77, 3) := by decide +kernel
theorem dX7_toPilot_17 : decode cX7_toPilot 17 = .ok (.iconst 3, 1) := by decide +kernel
theorem dX7_toPilot_18 : decode cX7_toPilot 18 = .ok (.if_icmp .ne 5, 3) := by decide +kernel
theorem dX7_toPilot_21 : decode cX7_toPilot 21 = .ok (.iconst 0, 1) := by decide +kernel
theorem dX7_toPilot_22 : decode cX7_toPilot 22 = .ok (.ireturn, 1) := by decide +kernel
theorem dX7_toPilot_23 : decode cX7_toPilot 23 = .ok (.aload_n 0, 1) := by decide +kernel
theorem dX7_toPilot_24 : decode cX7_toPilot 24 = .ok (.invokevirtual 187, 3) := by decide +kernel
theorem dX7_toPilot_27 : decode cX7_toPilot 27 = .ok (.lstore_n 1, 1) := by decide +kernel
theorem dX7_toPilot_28 : decode cX7_toPilot 28 = .ok (.iconst 0, 1) := by decide +kernel
theorem dX7_toPilot_29 : decode cX7_toPilot 29 = .ok (.istore_n 3, 1) := by decide +kernel
theorem dX7_toPilot_30 : decode cX7_toPilot 30 = .ok (.aload_n 0, 1) := by decide +kernel
theorem dX7_toPilot_31 : decode cX7_toPilot 31 = .ok (.getfield 77, 3) := by decide +kernel
theorem dX7_toPilot_34 : decode cX7_toPilot 34 = .ok (.iconst 2, 1) := by decide +kernel
theorem dX7_toPilot_35 : decode cX7_toPilot 35 = .ok (.if_icmp .eq 30, 3) := by decide +kernel
theorem dX7_toPilot_38 : decode cX7_toPilot 38 = .ok (.iload_n 3, 1) := by decide +kernel
theorem dX7_toPilot_39 : decode cX7_toPilot 39 = .ok (.sipush 300, 3) := by decide +kernel
theorem dX7_toPilot_42 : decode cX7_toPilot 42 = .ok (.if_icmp .ge 23, 3) := by decide +kernel
theorem dX7_toPilot_45 : decode cX7_toPilot 45 = .ok (.aload_n 0, 1) := by decide +kernel
theorem dX7_toPilot_46 : decode cX7_toPilot 46 = .ok (.aload_n 0, 1) := by decide +kernel
theorem dX7_toPilot_47 : decode cX7_toPilot 47 = .ok (.getfield 74, 3) := by decide +kernel
theorem dX7_toPilot_50 : decode cX7_toPilot 50 = .ok (.bipush 32, 2) := by decide +kernel
theorem dX7_toPilot_52 : decode cX7_toPilot 52 = .ok (.iand, 1) := by decide +kernel
theorem dX7_toPilot_53 : decode cX7_toPilot 53 = .ok (.bipush 7, 2) := by decide +kernel
theorem dX7_toPilot_55 : decode cX7_toPilot 55 = .ok (.ior, 1) := by decide +kernel
theorem dX7_toPilot_56 : decode cX7_toPilot 56 = .ok (.invokevirtual 149, 3) := by decide +kernel
theorem dX7_toPilot_59 : decode cX7_toPilot 59 = .ok (.iinc 3 1, 3) := by decide +kernel
theorem dX7_toPilot_62 : decode cX7_toPilot 62 = .ok (.goto (-32), 3) := by decide +kernel
theorem dX7_toPilot_65 : decode cX7_toPilot 65 = .ok (.aload_n 0, 1) := by decide +kernel
theorem dX7_toPilot_66 : decode cX7_toPilot 66 = .ok (.getfield 77, 3) := by decide +kernel
theorem dX7_toPilot_69 : decode cX7_toPilot 69 = .ok (.iconst 2, 1) := by decide +kernel
theorem dX7_toPilot_70 : decode cX7_toPilot 70 = .ok (.if_icmp .ne 7, 3) := by decide +kernel
theorem dX7_toPilot_73 : decode cX7_toPilot 73 = .ok (.iconst 1, 1) := by decide +kernel
theorem dX7_toPilot_74 : decode cX7_toPilot 74 = .ok (.goto 4, 3) := by decide +kernel
theorem dX7_toPilot_77 : decode cX7_toPilot 77 = .ok (.iconst 0, 1) := by decide +kernel
theorem dX7_toPilot_78 : decode cX7_toPilot 78 = .ok (.istore 4, 2) := by decide +kernel
theorem dX7_toPilot_80 : decode cX7_toPilot 80 = .ok (.aload_n 0, 1) := by decide +kernel
theorem dX7_toPilot_81 : decode cX7_toPilot 81 = .ok (.lload_n 1, 1) := by decide +kernel
theorem dX7_toPilot_82 : decode cX7_toPilot 82 = .ok (.invokevirtual 197, 3) := by decide +kernel
theorem dX7_toPilot_85 : decode cX7_toPilot 85 = .ok (.iload 4, 2) := by decide +kernel
theorem dX7_toPilot_87 : decode cX7_toPilot 87 = .ok (.ifCond .eq 7, 3) := by decide +kernel
theorem dX7_toPilot_90 : decode cX7_toPilot 90 = .ok (.iload_n 3, 1) := by decide +kernel
theorem dX7_toPilot_91 : decode cX7_toPilot 91 = .ok (.goto 4, 3) := by decide +kernel
theorem dX7_toPilot_94 : decode cX7_toPilot 94 = .ok (.iconst (-1), 1) := by decide +kernel
theorem dX7_toPilot_95 : decode cX7_toPilot 95 = .ok (.ireturn, 1) := by decide +kernel
theorem dJ9_max_7cf53_0 : decode cJ9_max_7cf53 0 = .ok (.iload_n 0, 1) := by decide +kernel
theorem dJ9_max_7cf53_1 : decode cJ9_max_7cf53 1 = .ok (.iload_n 1, 1) := by decide +kernel
theorem dJ9_max_7cf53_2 : decode cJ9_max_7cf53 2 = .ok (.if_icmp .lt 7, 3) := by decide +kernel
theorem dJ9_max_7cf53_5 : decode cJ9_max_7cf53 5 = .ok (.iload_n 0, 1) := by decide +kernel
theorem dJ9_max_7cf53_6 : decode cJ9_max_7cf53 6 = .ok (.goto 4, 3) := by decide +kernel
theorem dJ9_max_7cf53_9 : decode cJ9_max_7cf53 9 = .ok (.iload_n 1, 1) := by decide +kernel
theorem dJ9_max_7cf53_10 : decode cJ9_max_7cf53 10 = .ok (.ireturn, 1) := by decide +kernel
theorem dJ9_min_7cf53_0 : decode cJ9_min_7cf53 0 = .ok (.iload_n 0, 1) := by decide +kernel
theorem dJ9_min_7cf53_1 : decode cJ9_min_7cf53 1 = .ok (.iload_n 1, 1) := by decide +kernel
theorem dJ9_min_7cf53_2 : decode cJ9_min_7cf53 2 = .ok (.if_icmp .gt 7, 3) := by decide +kernel
theorem dJ9_min_7cf53_5 : decode cJ9_min_7cf53 5 = .ok (.iload_n 0, 1) := by decide +kernel
theorem dJ9_min_7cf53_6 : decode cJ9_min_7cf53 6 = .ok (.goto 4, 3) := by decide +kernel
theorem dJ9_min_7cf53_9 : decode cJ9_min_7cf53 9 = .ok (.iload_n 1, 1) := by decide +kernel
theorem dJ9_min_7cf53_10 : decode cJ9_min_7cf53 10 = .ok (.ireturn, 1) := by decide +kernel
