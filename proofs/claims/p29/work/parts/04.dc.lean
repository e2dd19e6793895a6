set_option maxRecDepth 20000 in
theorem ggX0_init_X2_init : GoodIn wsX0_init wsX2_init := goodIn_r _ [11, 12, 2, 3, 13, 14, 15, 16, 17, 18, 19, 20, 21, 35, 36, 22, 23, 24, 25, 26, 27, 28, 29, 30, 31, 32] (by decide +kernel) (by decide +kernel)
set_option maxRecDepth 20000 in
theorem gX0_init_X2_init : GoodIn wsX0_init (wsX2_init) := ggX0_init_X2_init
theorem dX0_init_0 : decode cX0_init 0 = .ok (.aload_n 0, 1) := by decide +kernel
theorem dX0_init_1 : decode cX0_init 1 = .ok (.invokespecial 1, 3) := by decide +kernel
theorem dX0_init_4 : decode cX0_init 4 = .ok (.aload_n 0, 1) := by decide +kernel
theorem dX0_init_5 : decode cX0_init 5 = .ok (.new 7, 3) := by decide +kernel
theorem dX0_init_8 : decode cX0_init 8 = .ok (.dup, 1) := by decide +kernel
theorem dX0_init_9 : decode cX0_init 9 = .ok (.aload_n 1, 1) := by decide +kernel
theorem dX0_init_10 : decode cX0_init 10 = .ok (.invokespecial 9, 3) := by decide +kernel
theorem dX0_init_13 : decode cX0_init 13 = .ok (.putfield 12, 3) := by decide +kernel
theorem dX0_init_16 : decode cX0_init 16 = .ok (.aload_n 0, 1) := by decide +kernel
theorem dX0_init_17 : decode cX0_init 17 = .ok (.aload_n 2, 1) := by decide +kernel
theorem dX0_init_18 : decode cX0_init 18 = .ok (.putfield 18, 3) := by decide +kernel
theorem dX0_init_21 : decode cX0_init 21 = .ok (.return_, 1) := by decide +kernel
theorem dX1_init_0 : decode cX1_init 0 = .ok (.aload_n 0, 1) := by decide +kernel
theorem dX1_init_1 : decode cX1_init 1 = .ok (.invokespecial 1, 3) := by decide +kernel
theorem dX1_init_4 : decode cX1_init 4 = .ok (.return_, 1) := by decide +kernel
theorem dX1_copyFrom_0 : decode cX1_copyFrom 0 = .ok (.aload_n 0, 1) := by decide +kernel
theorem dX1_copyFrom_1 : decode cX1_copyFrom 1 = .ok (.aload_n 1, 1) := by decide +kernel
theorem dX1_copyFrom_2 : decode cX1_copyFrom 2 = .ok (.getfield 7, 3) := by decide +kernel
theorem dX1_copyFrom_5 : decode cX1_copyFrom 5 = .ok (.putfield 7, 3) := by decide +kernel
theorem dX1_copyFrom_8 : decode cX1_copyFrom 8 = .ok (.aload_n 0, 1) := by decide +kernel
theorem dX1_copyFrom_9 : decode cX1_copyFrom 9 = .ok (.aload_n 1, 1) := by decide +kernel
theorem dX1_copyFrom_10 : decode cX1_copyFrom 10 = .ok (.getfield 13, 3) := by decide +kernel
theorem dX1_copyFrom_13 : decode cX1_copyFrom 13 = .ok (.putfield 13, 3) := by decide +kernel
theorem dX1_copyFrom_16 : decode cX1_copyFrom 16 = .ok (.return_, 1) := by decide +kernel
theorem dX1_look_0 : decode cX1_look 0 = .ok (.iload_n 1, 1) := by decide +kernel
theorem dX1_look_1 : decode cX1_look 1 = .ok (.aload_n 0, 1) := by decide +kernel
theorem dX1_look_2 : decode cX1_look 2 = .ok (.getfield 7, 3) := by decide +kernel
theorem dX1_look_5 : decode cX1_look 5 = .ok (.if_icmp .ne 9, 3) := by decide +kernel
theorem dX1_look_8 : decode cX1_look 8 = .ok (.aload_n 0, 1) := by decide +kernel
theorem dX1_look_9 : decode cX1_look 9 = .ok (.iconst 0, 1) := by decide +kernel
theorem dX1_look_10 : decode cX1_look 10 = .ok (.putfield 13, 3) := by decide +kernel
theorem dX1_look_13 : decode cX1_look 13 = .ok (.return_, 1) := by decide +kernel
theorem dX1_look_14 : decode cX1_look 14 = .ok (.aload_n 0, 1) := by decide +kernel
theorem dX1_look_15 : decode cX1_look 15 = .ok (.dup, 1) := by decide +kernel
theorem dX1_look_16 : decode cX1_look 16 = .ok (.getfield 13, 3) := by decide +kernel
theorem dX1_look_19 : decode cX1_look 19 = .ok (.iconst 1, 1) := by decide +kernel
theorem dX1_look_20 : decode cX1_look 20 = .ok (.iadd, 1) := by decide +kernel
theorem dX1_look_21 : decode cX1_look 21 = .ok (.putfield 13, 3) := by decide +kernel
theorem dX1_look_24 : decode cX1_look 24 = .ok (.aload_n 0, 1) := by decide +kernel
theorem dX1_look_25 : decode cX1_look 25 = .ok (.getfield 13, 3) := by decide +kernel
theorem dX1_look_28 : decode cX1_look 28 = .ok (.iload_n 2, 1) := by decide +kernel
theorem dX1_look_29 : decode cX1_look 29 = .ok (.if_icmp .lt 13, 3) := by decide +kernel
theorem dX1_look_32 : decode cX1_look 32 = .ok (.aload_n 0, 1) := by decide +kernel
theorem dX1_look_33 : decode cX1_look 33 = .ok (.iload_n 1, 1) := by decide +kernel
theorem dX1_look_34 : decode cX1_look 34 = .ok (.putfield 7, 3) := by decide +kernel
theorem dX1_look_37 : decode cX1_look 37 = .ok (.aload_n 0, 1) := by decide +kernel
theorem dX1_look_38 : decode cX1_look 38 = .ok (.iconst 0, 1) := by decide +kernel
theorem dX1_look_39 : decode cX1_look 39 = .ok (.putfield 13, 3) := by decide +kernel
theorem dX1_look_42 : decode cX1_look 42 = .ok (.return_, 1) := by decide +kernel
set_option maxRecDepth 20000 in
theorem ggX2_init_X1_init : GoodIn wsX2_init wsX1_init := goodIn_r _ [11, 12, 2, 3] (by decide +kernel) (by decide +kernel)
set_option maxRecDepth 20000 in
theorem gX2_init_X1_init_n11 : GoodIn wsX2_init (wsX1_init) := ggX2_init_X1_init
theorem dX2_init_0 : decode cX2_init 0 = .ok (.aload_n 0, 1) := by decide +kernel
theorem dX2_init_1 : decode cX2_init 1 = .ok (.invokespecial 3, 3) := by decide +kernel
theorem dX2_init_4 : decode cX2_init 4 = .ok (.aload_n 0, 1) := by decide +kernel
theorem dX2_init_5 : decode cX2_init 5 = .ok (.new 9, 3) := by decide +kernel
theorem dX2_init_8 : decode cX2_init 8 = .ok (.dup, 1) := by decide +kernel
theorem dX2_init_9 : decode cX2_init 9 = .ok (.invokespecial 11, 3) := by decide +kernel
theorem dX2_init_12 : decode cX2_init 12 = .ok (.putfield 12, 3) := by decide +kernel
theorem dX2_init_15 : decode cX2_init 15 = .ok (.aload_n 0, 1) := by decide +kernel
theorem dX2_init_16 : decode cX2_init 16 = .ok (.new 9, 3) := by decide +kernel
theorem dX2_init_19 : decode cX2_init 19 = .ok (.dup, 1) := by decide +kernel
theorem dX2_init_20 : decode cX2_init 20 = .ok (.invokespecial 11, 3) := by decide +kernel
theorem dX2_init_23 : decode cX2_init 23 = .ok (.putfield 18, 3) := by decide +kernel
theorem dX2_init_26 : decode cX2_init 26 = .ok (.aload_n 0, 1) := by decide +kernel
theorem dX2_init_27 : decode cX2_init 27 = .ok (.aload_n 1, 1) := by decide +kernel
theorem dX2_init_28 : decode cX2_init 28 = .ok (.putfield 21, 3) := by decide +kernel
theorem dX2_init_31 : decode cX2_init 31 = .ok (.return_, 1) := by decide +kernel
set_option maxRecDepth 20000 in
theorem ggX2_copyFrom_X1_copyFrom : GoodIn wsX2_copyFrom wsX1_copyFrom := goodIn_r _ [15, 16, 17, 29, 30] (by decide +kernel) (by decide +kernel)
set_option maxRecDepth 20000 in
theorem gX2_copyFrom_X1_copyFrom : GoodIn wsX2_copyFrom (wsV RX2 25 RX1 yX1_copyFrom wsX1_copyFrom) := goodIn_app (goodIn_of _ (by decide +kernel)) ggX2_copyFrom_X1_copyFrom
theorem dX2_copyFrom_0 : decode cX2_copyFrom 0 = .ok (.aload_n 0, 1) := by decide +kernel
theorem dX2_copyFrom_1 : decode cX2_copyFrom 1 = .ok (.getfield 12, 3) := by decide +kernel
theorem dX2_copyFrom_4 : decode cX2_copyFrom 4 = .ok (.aload_n 1, 1) := by decide +kernel
theorem dX2_copyFrom_5 : decode cX2_copyFrom 5 = .ok (.getfield 12, 3) := by decide +kernel
theorem dX2_copyFrom_8 : decode cX2_copyFrom 8 = .ok (.invokevirtual 25, 3) := by decide +kernel
theorem dX2_copyFrom_11 : decode cX2_copyFrom 11 = .ok (.aload_n 0, 1) := by decide +kernel
theorem dX2_copyFrom_12 : decode cX2_copyFrom 12 = .ok (.getfield 18, 3) := by decide +kernel
theorem dX2_copyFrom_15 : decode cX2_copyFrom 15 = .ok (.aload_n 1, 1) := by decide +kernel
theorem dX2_copyFrom_16 : decode cX2_copyFrom 16 = .ok (.getfield 18, 3) := by decide +kernel
theorem dX2_copyFrom_19 : decode cX2_copyFrom 19 = .ok (.invokevirtual 25, 3) := by decide +kernel
theorem dX2_copyFrom_22 : decode cX2_copyFrom 22 = .ok (.aload_n 0, 1) := by decide +kernel
theorem dX2_copyFrom_23 : decode cX2_copyFrom 23 = .ok (.aload_n 1, 1) := by decide +kernel
theorem dX2_copyFrom_24 : decode cX2_copyFrom 24 = .ok (.getfield 29, 3) := by decide +kernel
theorem dX2_copyFrom_27 : decode cX2_copyFrom 27 = .ok (.putfield 29, 3) := by decide +kernel
theorem dX2_copyFrom_30 : decode cX2_copyFrom 30 = .ok (.aload_n 0, 1) := by decide +kernel
theorem dX2_copyFrom_31 : decode cX2_copyFrom 31 = .ok (.aload_n 1, 1) := by decide +kernel
theorem dX2_copyFrom_32 : decode cX2_copyFrom 32 = .ok (.getfield 33, 3) := by decide +kernel
theorem dX2_copyFrom_35 : decode cX2_copyFrom 35 = .ok (.putfield 33, 3) := by decide +kernel
theorem dX2_copyFrom_38 : decode cX2_copyFrom 38 = .ok (.aload_n 0, 1) := by decide +kernel
theorem dX2_copyFrom_39 : decode cX2_copyFrom 39 = .ok (.aload_n 1, 1) := by decide +kernel
theorem dX2_copyFrom_40 : decode cX2_copyFrom 40 = .ok (.getfield 36, 3) := by decide +kernel
theorem dX2_copyFrom_43 : decode cX2_copyFrom 43 = .ok (.putfield 36, 3) := by decide +kernel
theorem dX2_copyFrom_46 : decode cX2_copyFrom 46 = .ok (.aload_n 0, 1) := by decide +kernel
theorem dX2_copyFrom_47 : decode cX2_copyFrom 47 = .ok (.aload_n 1, 1) := by decide +kernel
theorem dX2_copyFrom_48 : decode cX2_copyFrom 48 = .ok (.getfield 39, 3) := by decide +kernel
theorem dX2_copyFrom_51 : decode cX2_copyFrom 51 = .ok (.putfield 39, 3) := by decide +kernel
theorem dX2_copyFrom_54 : decode cX2_copyFrom 54 = .ok (.aload_n 0, 1) := by decide +kernel
theorem dX2_copyFrom_55 : decode cX2_copyFrom 55 = .ok (.aload_n 1, 1) := by decide +kernel
theorem dX2_copyFrom_56 : decode cX2_copyFrom 56 = .ok (.getfield 42, 3) := by decide +kernel
theorem dX2_copyFrom_59 : decode cX2_copyFrom 59 = .ok (.putfield 42, 3) := by decide +kernel
theorem dX2_copyFrom_62 : decode cX2_copyFrom 62 = .ok (.aload_n 0, 1) := by decide +kernel
theorem dX2_copyFrom_63 : decode cX2_copyFrom 63 = .ok (.aload_n 1, 1) := by decide +kernel
theorem dX2_copyFrom_64 : decode cX2_copyFrom 64 = .ok (.getfield 45, 3) := by decide +kernel
theorem dX2_copyFrom_67 : decode cX2_copyFrom 67 = .ok (.putfield 45, 3) := by decide +kernel
theorem dX2_copyFrom_70 : decode cX2_copyFrom 70 = .ok (.aload_n 0, 1) := by decide +kernel
theorem dX2_copyFrom_71 : decode cX2_copyFrom 71 = .ok (.aload_n 1, 1) := by decide +kernel
theorem dX2_copyFrom_72 : decode cX2_copyFrom 72 = .ok (.getfield 48, 3) := by decide +kernel
theorem dX2_copyFrom_75 : decode cX2_copyFrom 75 = .ok (.putfield 48, 3) := by decide +kernel
theorem dX2_copyFrom_78 : decode cX2_copyFrom 78 = .ok (.aload_n 0, 1) := by decide +kernel
theorem dX2_copyFrom_79 : decode cX2_copyFrom 79 = .ok (.aload_n 1, 1) := by decide +kernel
theorem dX2_copyFrom_80 : decode cX2_copyFrom 80 = .ok (.getfield 51, 3) := by decide +kernel
theorem dX2_copyFrom_83 : decode cX2_copyFrom 83 = .ok (.putfield 51, 3) := by decide +kernel
theorem dX2_copyFrom_86 : decode cX2_copyFrom 86 = .ok (.return_, 1) := by decide +kernel
theorem dX2_hasFlame_0 : decode cX2_hasFlame 0 = .ok (.aload_n 0, 1) := by decide +kernel
theorem dX2_hasFlame_1 : decode cX2_hasFlame 1 = .ok (.getfield 12, 3) := by decide +kernel
theorem dX2_hasFlame_4 : decode cX2_hasFlame 4 = .ok (.getfield 54, 3) := by decide +kernel
theorem dX2_hasFlame_7 : decode cX2_hasFlame 7 = .ok (.ifCond .ne 13, 3) := by decide +kernel
theorem dX2_hasFlame_10 : decode cX2_hasFlame 10 = .ok (.aload_n 0, 1) := by decide +kernel
theorem dX2_hasFlame_11 : decode cX2_hasFlame 11 = .ok (.getfield 18, 3) := by decide +kernel
theorem dX2_hasFlame_14 : decode cX2_hasFlame 14 = .ok (.getfield 54, 3) := by decide +kernel
theorem dX2_hasFlame_17 : decode cX2_hasFlame 17 = .ok (.ifCond .eq 7, 3) := by decide +kernel
theorem dX2_hasFlame_20 : decode cX2_hasFlame 20 = .ok (.iconst 1, 1) := by decide +kernel
theorem dX2_hasFlame_21 : decode cX2_hasFlame 21 = .ok (.goto 4, 3) := by decide +kernel
theorem dX2_hasFlame_24 : decode cX2_hasFlame 24 = .ok (.iconst 0, 1) := by decide +kernel
theorem dX2_hasFlame_25 : decode cX2_hasFlame 25 = .ok (.ireturn, 1) := by decide +kernel
theorem dX2_isLockedOut_0 : decode cX2_isLockedOut 0 = .ok (.aload_n 0, 1) := by decide +kernel
theorem dX2_isLockedOut_1 : decode cX2_isLockedOut 1 = .ok (.getfield 29, 3) := by decide +kernel
theorem dX2_isLockedOut_4 : decode cX2_isLockedOut 4 = .ok (.bipush 6, 2) := by decide +kernel
theorem dX2_isLockedOut_6 : decode cX2_isLockedOut 6 = .ok (.if_icmp .ne 7, 3) := by decide +kernel
theorem dX2_isLockedOut_9 : decode cX2_isLockedOut 9 = .ok (.iconst 1, 1) := by decide +kernel
theorem dX2_isLockedOut_10 : decode cX2_isLockedOut 10 = .ok (.goto 4, 3) := by decide +kernel
theorem dX2_isLockedOut_13 : decode cX2_isLockedOut 13 = .ok (.iconst 0, 1) := by decide +kernel
theorem dX2_isLockedOut_14 : decode cX2_isLockedOut 14 = .ok (.ireturn, 1) := by decide +kernel
theorem dX2_isPilotOpen_0 : decode cX2_isPilotOpen 0 = .ok (.aload_n 0, 1) := by decide +kernel
theorem dX2_isPilotOpen_1 : decode cX2_isPilotOpen 1 = .ok (.getfield 29, 3) := by decide +kernel
theorem dX2_isPilotOpen_4 : decode cX2_isPilotOpen 4 = .ok (.iconst 2, 1) := by decide +kernel
theorem dX2_isPilotOpen_5 : decode cX2_isPilotOpen 5 = .ok (.if_icmp .eq 11, 3) := by decide +kernel
theorem dX2_isPilotOpen_8 : decode cX2_isPilotOpen 8 = .ok (.aload_n 0, 1) := by decide +kernel
theorem dX2_isPilotOpen_9 : decode cX2_isPilotOpen 9 = .ok (.getfield 29, 3) := by decide +kernel
theorem dX2_isPilotOpen_12 : decode cX2_isPilotOpen 12 = .ok (.iconst 3, 1) := by decide +kernel
theorem dX2_isPilotOpen_13 : decode cX2_isPilotOpen 13 = .ok (.if_icmp .ne 7, 3) := by decide +kernel
theorem dX2_isPilotOpen_16 : decode cX2_isPilotOpen 16 = .ok (.iconst 1, 1) := by decide +kernel
theorem dX2_isPilotOpen_17 : decode cX2_isPilotOpen 17 = .ok (.goto 4, 3) := by decide +kernel
theorem dX2_isPilotOpen_20 : decode cX2_isPilotOpen 20 = .ok (.iconst 0, 1) := by decide +kernel
theorem dX2_isPilotOpen_21 : decode cX2_isPilotOpen 21 = .ok (.ireturn, 1) := by decide +kernel
theorem dX2_isMainOpen_0 : decode cX2_isMainOpen 0 = .ok (.aload_n 0, 1) := by decide +kernel
theorem dX2_isMainOpen_1 : decode cX2_isMainOpen 1 = .ok (.getfield 29, 3) := by decide +kernel
theorem dX2_isMainOpen_4 : decode cX2_isMainOpen 4 = .ok (.iconst 3, 1) := by decide +kernel
theorem dX2_isMainOpen_5 : decode cX2_isMainOpen 5 = .ok (.if_icmp .eq 11, 3) := by decide +kernel
theorem dX2_isMainOpen_8 : decode cX2_isMainOpen 8 = .ok (.aload_n 0, 1) := by decide +kernel
theorem dX2_isMainOpen_9 : decode cX2_isMainOpen 9 = .ok (.getfield 29, 3) := by decide +kernel
theorem dX2_isMainOpen_12 : decode cX2_isMainOpen 12 = .ok (.iconst 4, 1) := by decide +kernel
theorem dX2_isMainOpen_13 : decode cX2_isMainOpen 13 = .ok (.if_icmp .ne 7, 3) := by decide +kernel
theorem dX2_isMainOpen_16 : decode cX2_isMainOpen 16 = .ok (.iconst 1, 1) := by decide +kernel
theorem dX2_isMainOpen_17 : decode cX2_isMainOpen 17 = .ok (.goto 4, 3) := by decide +kernel
theorem dX2_isMainOpen_20 : decode cX2_isMainOpen 20 = .ok (.iconst 0, 1) := by decide +kernel
theorem dX2_isMainOpen_21 : decode cX2_isMainOpen 21 = .ok (.ireturn, 1) := by decide +kernel
set_option maxRecDepth 20000 in
theorem ggX2_tick_X2_isPilotOpen : GoodIn wsX2_tick wsX2_isPilotOpen := goodIn_r _ [8, 9, 109, 110, 111, 112, 113, 114, 115, 116, 117, 118, 119] (by decide +kernel) (by decide +kernel)
set_option maxRecDepth 20000 in
theorem gX2_tick_X2_isPilotOpen : GoodIn wsX2_tick (wsV RX2 58 RX2 yX2_isPilotOpen wsX2_isPilotOpen) := goodIn_app (goodIn_of _ (by decide +kernel)) ggX2_tick_X2_isPilotOpen
set_option maxRecDepth 20000 in
theorem ggX2_tick_X2_isMainOpen : GoodIn wsX2_tick wsX2_isMainOpen := goodIn_r _ [13, 9, 109, 110, 111, 112, 113, 114, 115, 116, 117, 118, 119] (by decide +kernel) (by decide +kernel)
set_option maxRecDepth 20000 in
theorem gX2_tick_X2_isMainOpen : GoodIn wsX2_tick (wsV RX2 62 RX2 yX2_isMainOpen wsX2_isMainOpen) := goodIn_app (goodIn_of _ (by decide +kernel)) ggX2_tick_X2_isMainOpen
set_option maxRecDepth 20000 in
theorem ggX2_tick_X6_isOn : GoodIn wsX2_tick wsX6_isOn := goodIn_r _ [16] (by decide +kernel) (by decide +kernel)
set_option maxRecDepth 20000 in
theorem gX2_tick_X6_isOn_n65 : GoodIn wsX2_tick (wsX6_isOn) := ggX2_tick_X6_isOn
set_option maxRecDepth 20000 in
theorem ggX2_tick_X2_look : GoodIn wsX2_tick wsX2_look := goodIn_r _ [20, 21, 22, 23, 24, 25, 26, 27, 28, 109, 110, 111, 112, 113, 114, 115, 116, 117, 118, 119, 120, 121, 122, 123, 124, 125, 126, 127, 128, 129, 130, 131, 132] (by decide +kernel) (by decide +kernel)
set_option maxRecDepth 20000 in
theorem gX2_tick_X2_look : GoodIn wsX2_tick (wsV RX2 69 RX2 yX2_look wsX2_look) := goodIn_app (goodIn_of _ (by decide +kernel)) ggX2_tick_X2_look
set_option maxRecDepth 20000 in
theorem ggX2_tick_X2_movePositions : GoodIn wsX2_tick wsX2_movePositions := goodIn_r _ [32, 33, 21, 34, 35, 36, 37, 7, 38, 9, 39, 40, 41, 42, 43, 44, 45, 46, 47, 48, 49, 50, 51, 52, 10, 11, 12, 13, 109, 110, 111, 112, 113, 114, 115, 116, 117, 118, 119, 120, 121, 122, 123, 124, 125, 126, 127, 128, 129, 130] (by decide +kernel) (by decide +kernel)
set_option maxRecDepth 20000 in
theorem gX2_tick_X2_movePositions : GoodIn wsX2_tick (wsV RX2 73 RX2 yX2_movePositions wsX2_movePositions) := goodIn_app (goodIn_of _ (by decide +kernel)) ggX2_tick_X2_movePositions
set_option maxRecDepth 20000 in
theorem ggX2_tick_X2_sequence : GoodIn wsX2_tick wsX2_sequence := goodIn_r _ [56, 9, 57, 58, 59, 7, 60, 61, 62, 63, 64, 1, 2, 65, 66, 67, 68, 69, 70, 71, 72, 73, 3, 74, 34, 14, 15, 16, 75, 76, 77, 78, 33, 21, 79, 80, 81, 82, 83, 84, 85, 86, 87, 88, 89, 90, 91, 92, 93, 94, 95, 96, 97, 98, 99, 100, 101, 102, 109, 110, 111, 112, 113, 114, 115, 116, 117, 118, 119, 131, 132, 120, 121, 122, 123, 124, 125, 126, 127, 128, 129, 130] (by decide +kernel) (by decide +kernel)
set_option maxRecDepth 20000 in
theorem gX2_tick_X2_sequence : GoodIn wsX2_tick (wsV RX2 76 RX2 yX2_sequence wsX2_sequence) := goodIn_app (goodIn_of _ (by decide +kernel)) ggX2_tick_X2_sequence
set_option maxRecDepth 20000 in
theorem ggX2_tick_X2_countUnlit : GoodIn wsX2_tick wsX2_countUnlit := goodIn_r _ [106, 107, 108, 39, 40, 41, 42, 61, 62, 63, 7, 64, 1, 2, 109, 110, 111, 112, 113, 114, 115, 116, 117, 118, 119, 131, 132] (by decide +kernel) (by decide +kernel)
set_option maxRecDepth 20000 in
theorem gX2_tick_X2_countUnlit : GoodIn wsX2_tick (wsV RX2 80 RX2 yX2_countUnlit wsX2_countUnlit) := goodIn_app (goodIn_of _ (by decide +kernel)) ggX2_tick_X2_countUnlit
theorem dX2_tick_0 : decode cX2_tick 0 = .ok (.aload_n 0, 1) := by decide +kernel
theorem dX2_tick_1 : decode cX2_tick 1 = .ok (.invokevirtual 58, 3) := by decide +kernel
theorem dX2_tick_4 : decode cX2_tick 4 = .ok (.ifCond .ne 10, 3) := by decide +kernel
theorem dX2_tick_7 : decode cX2_tick 7 = .ok (.aload_n 0, 1) := by decide +kernel
theorem dX2_tick_8 : decode cX2_tick 8 = .ok (.invokevirtual 62, 3) := by decide +kernel
theorem dX2_tick_11 : decode cX2_tick 11 = .ok (.ifCond .eq 7, 3) := by decide +kernel
theorem dX2_tick_14 : decode cX2_tick 14 = .ok (.iconst 1, 1) := by decide +kernel
theorem dX2_tick_15 : decode cX2_tick 15 = .ok (.goto 4, 3) := by decide +kernel
theorem dX2_tick_18 : decode cX2_tick 18 = .ok (.iconst 0, 1) := by decide +kernel
theorem dX2_tick_19 : decode cX2_tick 19 = .ok (.istore_n 2, 1) := by decide +kernel
theorem dX2_tick_20 : decode cX2_tick 20 = .ok (.aload_n 0, 1) := by decide +kernel
theorem dX2_tick_21 : decode cX2_tick 21 = .ok (.aload_n 0, 1) := by decide +kernel
theorem dX2_tick_22 : decode cX2_tick 22 = .ok (.getfield 12, 3) := by decide +kernel
theorem dX2_tick_25 : decode cX2_tick 25 = .ok (.iload_n 1, 1) := by decide +kernel
theorem dX2_tick_26 : decode cX2_tick 26 = .ok (.bipush 8, 2) := by decide +kernel
theorem dX2_tick_28 : decode cX2_tick 28 = .ok (.invokestatic 65, 3) := by decide +kernel
theorem dX2_tick_31 : decode cX2_tick 31 = .ok (.invokevirtual 69, 3) := by decide +kernel
theorem dX2_tick_34 : decode cX2_tick 34 = .ok (.aload_n 0, 1) := by decide +kernel
theorem dX2_tick_35 : decode cX2_tick 35 = .ok (.aload_n 0, 1) := by decide +kernel
theorem dX2_tick_36 : decode cX2_tick 36 = .ok (.getfield 18, 3) := by decide +kernel
theorem dX2_tick_39 : decode cX2_tick 39 = .ok (.iload_n 1, 1) := by decide +kernel
theorem dX2_tick_40 : decode cX2_tick 40 = .ok (.bipush 16, 2) := by decide +kernel
theorem dX2_tick_42 : decode cX2_tick 42 = .ok (.invokestatic 65, 3) := by decide +kernel
theorem dX2_tick_45 : decode cX2_tick 45 = .ok (.invokevirtual 69, 3) := by decide +kernel
theorem dX2_tick_48 : decode cX2_tick 48 = .ok (.aload_n 0, 1) := by decide +kernel
theorem dX2_tick_49 : decode cX2_tick 49 = .ok (.invokevirtual 73, 3) := by decide +kernel
theorem dX2_tick_52 : decode cX2_tick 52 = .ok (.aload_n 0, 1) := by decide +kernel
theorem dX2_tick_53 : decode cX2_tick 53 = .ok (.dup, 1) := by decide +kernel
theorem dX2_tick_54 : decode cX2_tick 54 = .ok (.getfield 36, 3) := by decide +kernel
theorem dX2_tick_57 : decode cX2_tick 57 = .ok (.iconst 1, 1) := by decide +kernel
theorem dX2_tick_58 : decode cX2_tick 58 = .ok (.iadd, 1) := by decide +kernel
theorem dX2_tick_59 : decode cX2_tick 59 = .ok (.putfield 36, 3) := by decide +kernel
theorem dX2_tick_62 : decode cX2_tick 62 = .ok (.aload_n 0, 1) := by decide +kernel
theorem dX2_tick_63 : decode cX2_tick 63 = .ok (.iload_n 1, 1) := by decide +kernel
theorem dX2_tick_64 : decode cX2_tick 64 = .ok (.invokevirtual 76, 3) := by decide +kernel
theorem dX2_tick_67 : decode cX2_tick 67 = .ok (.istore_n 3, 1) := by decide +kernel
theorem dX2_tick_68 : decode cX2_tick 68 = .ok (.aload_n 0, 1) := by decide +kernel
theorem dX2_tick_69 : decode cX2_tick 69 = .ok (.iload_n 2, 1) := by decide +kernel
theorem dX2_tick_70 : decode cX2_tick 70 = .ok (.invokevirtual 80, 3) := by decide +kernel
theorem dX2_tick_73 : decode cX2_tick 73 = .ok (.iload_n 3, 1) := by decide +kernel
theorem dX2_tick_74 : decode cX2_tick 74 = .ok (.ireturn, 1) := by decide +kernel
set_option maxRecDepth 20000 in
theorem ggX2_look_X1_look : GoodIn wsX2_look wsX1_look := goodIn_r _ [6, 7, 8, 31, 32] (by decide +kernel) (by decide +kernel)
set_option maxRecDepth 20000 in
theorem gX2_look_X1_look : GoodIn wsX2_look (wsV RX2 92 RX1 yX1_look wsX1_look) := goodIn_app (goodIn_of _ (by decide +kernel)) ggX2_look_X1_look
theorem dX2_look_0 : decode cX2_look 0 = .ok (.aload_n 1, 1) := by decide +kernel
theorem dX2_look_1 : decode cX2_look 1 = .ok (.iload_n 2, 1) := by decide +kernel
theorem dX2_look_2 : decode cX2_look 2 = .ok (.iload_n 2, 1) := by decide +kernel
theorem dX2_look_3 : decode cX2_look 3 = .ok (.ifCond .eq 13, 3) := by decide +kernel
theorem dX2_look_6 : decode cX2_look 6 = .ok (.aload_n 0, 1) := by decide +kernel
theorem dX2_look_7 : decode cX2_look 7 = .ok (.getfield 21, 3) := by decide +kernel
theorem dX2_look_10 : decode cX2_look 10 = .ok (.getfield 84, 3) := by decide +kernel
theorem dX2_look_13 : decode cX2_look 13 = .ok (.goto 10, 3) := by decide +kernel
theorem dX2_look_16 : decode cX2_look 16 = .ok (.aload_n 0, 1) := by decide +kernel
theorem dX2_look_17 : decode cX2_look 17 = .ok (.getfield 21, 3) := by decide +kernel
theorem dX2_look_20 : decode cX2_look 20 = .ok (.getfield 89, 3) := by decide +kernel
theorem dX2_look_23 : decode cX2_look 23 = .ok (.invokevirtual 92, 3) := by decide +kernel
theorem dX2_look_26 : decode cX2_look 26 = .ok (.return_, 1) := by decide +kernel
set_option maxRecDepth 20000 in
theorem ggX2_movePositions_X2_airGoal : GoodIn wsX2_movePositions wsX2_airGoal := goodIn_r _ [8, 9, 2, 3, 10, 11, 12, 13, 28, 29, 30, 31, 32, 33, 34, 35, 36, 37, 38, 39, 40, 41, 42, 43, 44, 45, 46, 47, 48, 49] (by decide +kernel) (by decide +kernel)
set_option maxRecDepth 20000 in
theorem gX2_movePositions_X2_airGoal : GoodIn wsX2_movePositions (wsV RX2 95 RX2 yX2_airGoal wsX2_airGoal) := goodIn_app (goodIn_of _ (by decide +kernel)) ggX2_movePositions_X2_airGoal
set_option maxRecDepth 20000 in
theorem ggX2_movePositions_X2_fuelGoal : GoodIn wsX2_movePositions wsX2_fuelGoal := goodIn_r _ [17, 9, 2, 1, 18, 19, 12, 20, 28, 29, 30, 31, 32, 33, 34, 35, 36, 37, 38, 39, 40, 41, 42, 43, 44, 45, 46, 47, 48, 49] (by decide +kernel) (by decide +kernel)
set_option maxRecDepth 20000 in
theorem gX2_movePositions_X2_fuelGoal : GoodIn wsX2_movePositions (wsV RX2 99 RX2 yX2_fuelGoal wsX2_fuelGoal) := goodIn_app (goodIn_of _ (by decide +kernel)) ggX2_movePositions_X2_fuelGoal
set_option maxRecDepth 20000 in
theorem ggX2_movePositions_X2_moved : GoodIn wsX2_movePositions wsX2_moved := goodIn_r _ [23, 18, 19, 12, 20, 10, 11, 13] (by decide +kernel) (by decide +kernel)
set_option maxRecDepth 20000 in
theorem gX2_movePositions_X2_moved : GoodIn wsX2_movePositions (va_wsS RX2 105 yX2_moved wsX2_moved) := goodIn_app (goodIn_of _ (by decide +kernel)) ggX2_movePositions_X2_moved
set_option maxRecDepth 20000 in
theorem ggX2_movePositions_X2_isMainOpen : GoodIn wsX2_movePositions wsX2_isMainOpen := goodIn_r _ [27, 9, 28, 29, 30, 31, 32, 33, 34, 35, 36, 37, 38] (by decide +kernel) (by decide +kernel)
set_option maxRecDepth 20000 in
theorem gX2_movePositions_X2_isMainOpen : GoodIn wsX2_movePositions (wsV RX2 62 RX2 yX2_isMainOpen wsX2_isMainOpen) := goodIn_app (goodIn_of _ (by decide +kernel)) ggX2_movePositions_X2_isMainOpen
theorem dX2_movePositions_0 : decode cX2_movePositions 0 = .ok (.aload_n 0, 1) := by decide +kernel
theorem dX2_movePositions_1 : decode cX2_movePositions 1 = .ok (.invokevirtual 95, 3) := by decide +kernel
theorem dX2_movePositions_4 : decode cX2_movePositions 4 = .ok (.istore_n 1, 1) := by decide +kernel
theorem dX2_movePositions_5 : decode cX2_movePositions 5 = .ok (.aload_n 0, 1) := by decide +kernel
theorem dX2_movePositions_6 : decode cX2_movePositions 6 = .ok (.invokevirtual 99, 3) := by decide +kernel
theorem dX2_movePositions_9 : decode cX2_movePositions 9 = .ok (.istore_n 2, 1) := by decide +kernel
theorem dX2_movePositions_10 : decode cX2_movePositions 10 = .ok (.aload_n 0, 1) := by decide +kernel
theorem dX2_movePositions_11 : decode cX2_movePositions 11 = .ok (.aload_n 0, 1) := by decide +kernel
theorem dX2_movePositions_12 : decode cX2_movePositions 12 = .ok (.getfield 39, 3) := by decide +kernel
theorem dX2_movePositions_15 : decode cX2_movePositions 15 = .ok (.iload_n 1, 1) := by decide +kernel
theorem dX2_movePositions_16 : decode cX2_movePositions 16 = .ok (.aload_n 0, 1) := by decide +kernel
theorem dX2_movePositions_17 : decode cX2_movePositions 17 = .ok (.getfield 21, 3) := by decide +kernel
theorem dX2_movePositions_20 : decode cX2_movePositions 20 = .ok (.getfield 102, 3) := by decide +kernel
theorem dX2_movePositions_23 : decode cX2_movePositions 23 = .ok (.invokestatic 105, 3) := by decide +kernel
theorem dX2_movePositions_26 : decode cX2_movePositions 26 = .ok (.putfield 39, 3) := by decide +kernel
theorem dX2_movePositions_29 : decode cX2_movePositions 29 = .ok (.aload_n 0, 1) := by decide +kernel
theorem dX2_movePositions_30 : decode cX2_movePositions 30 = .ok (.aload_n 0, 1) := by decide +kernel
theorem dX2_movePositions_31 : decode cX2_movePositions 31 = .ok (.invokevirtual 62, 3) := by decide +kernel
theorem dX2_movePositions_34 : decode cX2_movePositions 34 = .ok (.ifCond .eq 21, 3) := by decide +kernel
theorem dX2_movePositions_37 : decode cX2_movePositions 37 = .ok (.aload_n 0, 1) := by decide +kernel
theorem dX2_movePositions_38 : decode cX2_movePositions 38 = .ok (.getfield 42, 3) := by decide +kernel
theorem dX2_movePositions_41 : decode cX2_movePositions 41 = .ok (.iload_n 2, 1) := by decide +kernel
theorem dX2_movePositions_42 : decode cX2_movePositions 42 = .ok (.aload_n 0, 1) := by decide +kernel
theorem dX2_movePositions_43 : decode cX2_movePositions 43 = .ok (.getfield 21, 3) := by decide +kernel
theorem dX2_movePositions_46 : decode cX2_movePositions 46 = .ok (.getfield 109, 3) := by decide +kernel
theorem dX2_movePositions_49 : decode cX2_movePositions 49 = .ok (.invokestatic 105, 3) := by decide +kernel
theorem dX2_movePositions_52 : decode cX2_movePositions 52 = .ok (.goto 4, 3) := by decide +kernel
theorem dX2_movePositions_55 : decode cX2_movePositions 55 = .ok (.iload_n 2, 1) := by decide +kernel
theorem dX2_movePositions_56 : decode cX2_movePositions 56 = .ok (.putfield 42, 3) := by decide +kernel
theorem dX2_movePositions_59 : decode cX2_movePositions 59 = .ok (.return_, 1) := by decide +kernel
theorem dX2_airGoal_0 : decode cX2_airGoal 0 = .ok (.aload_n 0, 1) := by decide +kernel
theorem dX2_airGoal_1 : decode cX2_airGoal 1 = .ok (.getfield 29, 3) := by decide +kernel
theorem dX2_airGoal_4 : decode cX2_airGoal 4 = .ok (.tableswitch 59 0 4 #[36, 38, 41, 41, 44], 36) := by decide +kernel
theorem dX2_airGoal_40 : decode cX2_airGoal 40 = .ok (.iconst 0, 1) := by decide +kernel
theorem dX2_airGoal_41 : decode cX2_airGoal 41 = .ok (.ireturn, 1) := by decide +kernel
theorem dX2_airGoal_42 : decode cX2_airGoal 42 = .ok (.bipush 100, 2) := by decide +kernel
theorem dX2_airGoal_44 : decode cX2_airGoal 44 = .ok (.ireturn, 1) := by decide +kernel
theorem dX2_airGoal_45 : decode cX2_airGoal 45 = .ok (.bipush 30, 2) := by decide +kernel
theorem dX2_airGoal_47 : decode cX2_airGoal 47 = .ok (.ireturn, 1) := by decide +kernel
theorem dX2_airGoal_48 : decode cX2_airGoal 48 = .ok (.aload_n 0, 1) := by decide +kernel
theorem dX2_airGoal_49 : decode cX2_airGoal 49 = .ok (.getfield 21, 3) := by decide +kernel
theorem dX2_airGoal_52 : decode cX2_airGoal 52 = .ok (.getfield 112, 3) := by decide +kernel
theorem dX2_airGoal_55 : decode cX2_airGoal 55 = .ok (.aload_n 0, 1) := by decide +kernel
theorem dX2_airGoal_56 : decode cX2_airGoal 56 = .ok (.getfield 42, 3) := by decide +kernel
theorem dX2_airGoal_59 : decode cX2_airGoal 59 = .ok (.invokestatic 115, 3) := by decide +kernel
theorem dX2_airGoal_62 : decode cX2_airGoal 62 = .ok (.ireturn, 1) := by decide +kernel
theorem dX2_airGoal_63 : decode cX2_airGoal 63 = .ok (.bipush 60, 2) := by decide +kernel
theorem dX2_airGoal_65 : decode cX2_airGoal 65 = .ok (.ireturn, 1) := by decide +kernel
theorem dX2_fuelGoal_0 : decode cX2_fuelGoal 0 = .ok (.aload_n 0, 1) := by decide +kernel
theorem dX2_fuelGoal_1 : decode cX2_fuelGoal 1 = .ok (.getfield 29, 3) := by decide +kernel
theorem dX2_fuelGoal_4 : decode cX2_fuelGoal 4 = .ok (.lookupswitch 46 #[(3, 28), (4, 31)], 28) := by decide +kernel
theorem dX2_fuelGoal_32 : decode cX2_fuelGoal 32 = .ok (.bipush 20, 2) := by decide +kernel
theorem dX2_fuelGoal_34 : decode cX2_fuelGoal 34 = .ok (.ireturn, 1) := by decide +kernel
theorem dX2_fuelGoal_35 : decode cX2_fuelGoal 35 = .ok (.aload_n 0, 1) := by decide +kernel
theorem dX2_fuelGoal_36 : decode cX2_fuelGoal 36 = .ok (.getfield 21, 3) := by decide +kernel
theorem dX2_fuelGoal_39 : decode cX2_fuelGoal 39 = .ok (.getfield 112, 3) := by decide +kernel
theorem dX2_fuelGoal_42 : decode cX2_fuelGoal 42 = .ok (.aload_n 0, 1) := by decide +kernel
theorem dX2_fuelGoal_43 : decode cX2_fuelGoal 43 = .ok (.getfield 39, 3) := by decide +kernel
theorem dX2_fuelGoal_46 : decode cX2_fuelGoal 46 = .ok (.invokestatic 121, 3) := by decide +kernel
theorem dX2_fuelGoal_49 : decode cX2_fuelGoal 49 = .ok (.ireturn, 1) := by decide +kernel
theorem dX2_fuelGoal_50 : decode cX2_fuelGoal 50 = .ok (.iconst 0, 1) := by decide +kernel
theorem dX2_fuelGoal_51 : decode cX2_fuelGoal 51 = .ok (.ireturn, 1) := by decide +kernel
theorem dX2_moved_0 : decode cX2_moved 0 = .ok (.iload_n 0, 1) := by decide +kernel
theorem dX2_moved_1 : decode cX2_moved 1 = .ok (.iload_n 1, 1) := by decide +kernel
theorem dX2_moved_2 : decode cX2_moved 2 = .ok (.if_icmp .ge 11, 3) := by decide +kernel
theorem dX2_moved_5 : decode cX2_moved 5 = .ok (.iload_n 0, 1) := by decide +kernel
theorem dX2_moved_6 : decode cX2_moved 6 = .ok (.iload_n 2, 1) := by decide +kernel
theorem dX2_moved_7 : decode cX2_moved 7 = .ok (.iadd, 1) := by decide +kernel
theorem dX2_moved_8 : decode cX2_moved 8 = .ok (.iload_n 1, 1) := by decide +kernel
theorem dX2_moved_9 : decode cX2_moved 9 = .ok (.invokestatic 121, 3) := by decide +kernel
theorem dX2_moved_12 : decode cX2_moved 12 = .ok (.ireturn, 1) := by decide +kernel
theorem dX2_moved_13 : decode cX2_moved 13 = .ok (.iload_n 0, 1) := by decide +kernel
theorem dX2_moved_14 : decode cX2_moved 14 = .ok (.iload_n 2, 1) := by decide +kernel
theorem dX2_moved_15 : decode cX2_moved 15 = .ok (.isub, 1) := by decide +kernel
theorem dX2_moved_16 : decode cX2_moved 16 = .ok (.iload_n 1, 1) := by decide +kernel
theorem dX2_moved_17 : decode cX2_moved 17 = .ok (.invokestatic 115, 3) := by decide +kernel
theorem dX2_moved_20 : decode cX2_moved 20 = .ok (.ireturn, 1) := by decide +kernel
set_option maxRecDepth 20000 in
theorem ggX2_sequence_X2_sequenceOff : GoodIn wsX2_sequence wsX2_sequenceOff := goodIn_r _ [6, 7, 8, 9, 5, 10, 11, 12, 13, 14, 15, 16, 17, 18, 19, 20, 1, 21, 22, 23, 24, 25, 26, 27, 58, 59, 60, 61, 62, 63, 64, 65, 66, 67, 68, 69, 70] (by decide +kernel) (by decide +kernel)
set_option maxRecDepth 20000 in
theorem gX2_sequence_X2_sequenceOff : GoodIn wsX2_sequence (wsV RX2 124 RX2 yX2_sequenceOff wsX2_sequenceOff) := goodIn_app (goodIn_of _ (by decide +kernel)) ggX2_sequence_X2_sequenceOff
set_option maxRecDepth 20000 in
theorem ggX2_sequence_X2_sequencePurge : GoodIn wsX2_sequence wsX2_sequencePurge := goodIn_r _ [31, 32, 23, 33, 22, 25, 26, 27, 17, 18, 19, 5, 20, 1, 21, 24, 7, 8, 9, 10, 11, 12, 13, 14, 15, 16, 58, 59, 60, 61, 62, 63, 64, 65, 66, 67, 68, 71, 72, 73, 74, 75, 76, 77, 78, 79, 80, 81, 69, 70] (by decide +kernel) (by decide +kernel)
set_option maxRecDepth 20000 in
theorem gX2_sequence_X2_sequencePurge : GoodIn wsX2_sequence (wsV RX2 127 RX2 yX2_sequencePurge wsX2_sequencePurge) := goodIn_app (goodIn_of _ (by decide +kernel)) ggX2_sequence_X2_sequencePurge
set_option maxRecDepth 20000 in
theorem ggX2_sequence_X2_sequenceLighting : GoodIn wsX2_sequence wsX2_sequenceLighting := goodIn_r _ [37, 1, 25, 26, 27, 13, 14, 15, 5, 16, 17, 18, 19, 20, 21, 22, 23, 24, 38, 39, 40, 41, 11, 33, 42, 43, 44, 45, 12, 58, 59, 60, 61, 62, 63, 64, 65, 66, 67, 68, 69, 70, 71, 72, 73, 74, 75, 76, 77, 78, 79, 80, 81] (by decide +kernel) (by decide +kernel)
set_option maxRecDepth 20000 in
theorem gX2_sequence_X2_sequenceLighting : GoodIn wsX2_sequence (wsV RX2 130 RX2 yX2_sequenceLighting wsX2_sequenceLighting) := goodIn_app (goodIn_of _ (by decide +kernel)) ggX2_sequence_X2_sequenceLighting
set_option maxRecDepth 20000 in
theorem ggX2_sequence_X2_sequenceRun : GoodIn wsX2_sequence wsX2_sequenceRun := goodIn_r _ [49, 12, 25, 26, 27, 13, 14, 15, 5, 16, 17, 18, 19, 20, 1, 21, 22, 23, 24, 50, 51, 52, 53, 33, 58, 59, 60, 61, 62, 63, 64, 65, 66, 67, 68, 69, 70, 71, 72, 73, 74, 75, 76, 77, 78, 79, 80, 81] (by decide +kernel) (by decide +kernel)
set_option maxRecDepth 20000 in
theorem gX2_sequence_X2_sequenceRun : GoodIn wsX2_sequence (wsV RX2 133 RX2 yX2_sequenceRun wsX2_sequenceRun) := goodIn_app (goodIn_of _ (by decide +kernel)) ggX2_sequence_X2_sequenceRun
set_option maxRecDepth 20000 in
theorem ggX2_sequence_X2_sequenceAfterPurge : GoodIn wsX2_sequence wsX2_sequenceAfterPurge := goodIn_r _ [57, 22, 33, 7, 8, 9, 5, 10, 11, 12, 13, 14, 15, 16, 17, 18, 19, 20, 1, 21, 23, 24, 58, 59, 60, 61, 62, 63, 64, 65, 66, 67, 68, 71, 72, 73, 74, 75, 76, 77, 78, 79, 80, 81, 69, 70] (by decide +kernel) (by decide +kernel)
set_option maxRecDepth 20000 in
theorem gX2_sequence_X2_sequenceAfterPurge : GoodIn wsX2_sequence (wsV RX2 136 RX2 yX2_sequenceAfterPurge wsX2_sequenceAfterPurge) := goodIn_app (goodIn_of _ (by decide +kernel)) ggX2_sequence_X2_sequenceAfterPurge
theorem dX2_sequence_0 : decode cX2_sequence 0 = .ok (.aload_n 0, 1) := by decide +kernel
theorem dX2_sequence_1 : decode cX2_sequence 1 = .ok (.getfield 29, 3) := by decide +kernel
theorem dX2_sequence_4 : decode cX2_sequence 4 = .ok (.tableswitch 69 0 5 #[40, 46, 52, 52, 58, 64], 40) := by decide +kernel
theorem dX2_sequence_44 : decode cX2_sequence 44 = .ok (.aload_n 0, 1) := by decide +kernel
theorem dX2_sequence_45 : decode cX2_sequence 45 = .ok (.iload_n 1, 1) := by decide +kernel
theorem dX2_sequence_46 : decode cX2_sequence 46 = .ok (.invokevirtual 124, 3) := by decide +kernel
theorem dX2_sequence_49 : decode cX2_sequence 49 = .ok (.ireturn, 1) := by decide +kernel
theorem dX2_sequence_50 : decode cX2_sequence 50 = .ok (.aload_n 0, 1) := by decide +kernel
theorem dX2_sequence_51 : decode cX2_sequence 51 = .ok (.iload_n 1, 1) := by decide +kernel
theorem dX2_sequence_52 : decode cX2_sequence 52 = .ok (.invokevirtual 127, 3) := by decide +kernel
theorem dX2_sequence_55 : decode cX2_sequence 55 = .ok (.ireturn, 1) := by decide +kernel
theorem dX2_sequence_56 : decode cX2_sequence 56 = .ok (.aload_n 0, 1) := by decide +kernel
theorem dX2_sequence_57 : decode cX2_sequence 57 = .ok (.iload_n 1, 1) := by decide +kernel
theorem dX2_sequence_58 : decode cX2_sequence 58 = .ok (.invokevirtual 130, 3) := by decide +kernel
theorem dX2_sequence_61 : decode cX2_sequence 61 = .ok (.ireturn, 1) := by decide +kernel
theorem dX2_sequence_62 : decode cX2_sequence 62 = .ok (.aload_n 0, 1) := by decide +kernel
theorem dX2_sequence_63 : decode cX2_sequence 63 = .ok (.iload_n 1, 1) := by decide +kernel
theorem dX2_sequence_64 : decode cX2_sequence 64 = .ok (.invokevirtual 133, 3) := by decide +kernel
theorem dX2_sequence_67 : decode cX2_sequence 67 = .ok (.ireturn, 1) := by decide +kernel
theorem dX2_sequence_68 : decode cX2_sequence 68 = .ok (.aload_n 0, 1) := by decide +kernel
theorem dX2_sequence_69 : decode cX2_sequence 69 = .ok (.invokevirtual 136, 3) := by decide +kernel
theorem dX2_sequence_72 : decode cX2_sequence 72 = .ok (.ireturn, 1) := by decide +kernel
theorem dX2_sequence_73 : decode cX2_sequence 73 = .ok (.iconst 0, 1) := by decide +kernel
theorem dX2_sequence_74 : decode cX2_sequence 74 = .ok (.ireturn, 1) := by decide +kernel
set_option maxRecDepth 20000 in
theorem ggX2_sequenceOff_X2_hasFlame : GoodIn wsX2_sequenceOff wsX2_hasFlame := goodIn_r _ [5, 6, 7, 24, 25, 26, 27, 28, 29, 30, 31, 32, 33, 34, 35, 36] (by decide +kernel) (by decide +kernel)
set_option maxRecDepth 20000 in
theorem gX2_sequenceOff_X2_hasFlame : GoodIn wsX2_sequenceOff (wsV RX2 139 RX2 yX2_hasFlame wsX2_hasFlame) := goodIn_app (goodIn_of _ (by decide +kernel)) ggX2_sequenceOff_X2_hasFlame
set_option maxRecDepth 20000 in
theorem ggX2_sequenceOff_X2_lockOut : GoodIn wsX2_sequenceOff wsX2_lockOut := goodIn_r _ [11, 12, 13, 14, 4, 15, 16, 17, 18, 19, 20, 24, 25, 26, 27, 28, 29, 30, 31, 32, 33, 34] (by decide +kernel) (by decide +kernel)
set_option maxRecDepth 20000 in
theorem gX2_sequenceOff_X2_lockOut : GoodIn wsX2_sequenceOff (wsV RX2 142 RX2 yX2_lockOut wsX2_lockOut) := goodIn_app (goodIn_of _ (by decide +kernel)) ggX2_sequenceOff_X2_lockOut
set_option maxRecDepth 20000 in
theorem ggX2_sequenceOff_X6_isOn : GoodIn wsX2_sequenceOff wsX6_isOn := goodIn_r _ [23] (by decide +kernel) (by decide +kernel)
set_option maxRecDepth 20000 in
theorem gX2_sequenceOff_X6_isOn_n65 : GoodIn wsX2_sequenceOff (wsX6_isOn) := ggX2_sequenceOff_X6_isOn
set_option maxRecDepth 20000 in
theorem ggX2_sequenceOff_X2_begin : GoodIn wsX2_sequenceOff wsX2_begin := goodIn_r _ [15, 16, 17, 18, 19, 20, 24, 25, 26, 27, 28, 29, 30, 31, 32, 33, 34] (by decide +kernel) (by decide +kernel)
set_option maxRecDepth 20000 in
theorem gX2_sequenceOff_X2_begin : GoodIn wsX2_sequenceOff (wsV RX2 145 RX2 yX2_begin wsX2_begin) := goodIn_app (goodIn_of _ (by decide +kernel)) ggX2_sequenceOff_X2_begin
theorem dX2_sequenceOff_0 : decode cX2_sequenceOff 0 = .ok (.aload_n 0, 1) := by decide +kernel
theorem dX2_sequenceOff_1 : decode cX2_sequenceOff 1 = .ok (.invokevirtual 139, 3) := by decide +kernel
theorem dX2_sequenceOff_4 : decode cX2_sequenceOff 4 = .ok (.ifCond .eq 9, 3) := by decide +kernel
theorem dX2_sequenceOff_7 : decode cX2_sequenceOff 7 = .ok (.aload_n 0, 1) := by decide +kernel
theorem dX2_sequenceOff_8 : decode cX2_sequenceOff 8 = .ok (.iconst 3, 1) := by decide +kernel
theorem dX2_sequenceOff_9 : decode cX2_sequenceOff 9 = .ok (.invokevirtual 142, 3) := by decide +kernel
theorem dX2_sequenceOff_12 : decode cX2_sequenceOff 12 = .ok (.ireturn, 1) := by decide +kernel
theorem dX2_sequenceOff_13 : decode cX2_sequenceOff 13 = .ok (.iload_n 1, 1) := by decide +kernel
theorem dX2_sequenceOff_14 : decode cX2_sequenceOff 14 = .ok (.iconst 1, 1) := by decide +kernel
theorem dX2_sequenceOff_15 : decode cX2_sequenceOff 15 = .ok (.invokestatic 65, 3) := by decide +kernel
theorem dX2_sequenceOff_18 : decode cX2_sequenceOff 18 = .ok (.ifCond .eq 16, 3) := by decide +kernel
theorem dX2_sequenceOff_21 : decode cX2_sequenceOff 21 = .ok (.aload_n 0, 1) := by decide +kernel
theorem dX2_sequenceOff_22 : decode cX2_sequenceOff 22 = .ok (.iconst 1, 1) := by decide +kernel
theorem dX2_sequenceOff_23 : decode cX2_sequenceOff 23 = .ok (.iconst 0, 1) := by decide +kernel
theorem dX2_sequenceOff_24 : decode cX2_sequenceOff 24 = .ok (.invokevirtual 145, 3) := by decide +kernel
theorem dX2_sequenceOff_27 : decode cX2_sequenceOff 27 = .ok (.ifCond .eq 7, 3) := by decide +kernel
theorem dX2_sequenceOff_30 : decode cX2_sequenceOff 30 = .ok (.iconst 1, 1) := by decide +kernel
theorem dX2_sequenceOff_31 : decode cX2_sequenceOff 31 = .ok (.goto 4, 3) := by decide +kernel
theorem dX2_sequenceOff_34 : decode cX2_sequenceOff 34 = .ok (.iconst 0, 1) := by decide +kernel
theorem dX2_sequenceOff_35 : decode cX2_sequenceOff 35 = .ok (.ireturn, 1) := by decide +kernel
set_option maxRecDepth 20000 in
theorem ggX2_sequencePurge_X6_isOn : GoodIn wsX2_sequencePurge wsX6_isOn := goodIn_r _ [7] (by decide +kernel) (by decide +kernel)
set_option maxRecDepth 20000 in
theorem gX2_sequencePurge_X6_isOn_n65 : GoodIn wsX2_sequencePurge (wsX6_isOn) := ggX2_sequencePurge_X6_isOn
set_option maxRecDepth 20000 in
theorem ggX2_sequencePurge_X2_begin : GoodIn wsX2_sequencePurge wsX2_begin := goodIn_r _ [12, 13, 14, 4, 2, 15, 26, 27, 28, 29, 30, 31, 32, 33, 34, 35, 36] (by decide +kernel) (by decide +kernel)
set_option maxRecDepth 20000 in
theorem gX2_sequencePurge_X2_begin : GoodIn wsX2_sequencePurge (wsV RX2 145 RX2 yX2_begin wsX2_begin) := goodIn_app (goodIn_of _ (by decide +kernel)) ggX2_sequencePurge_X2_begin
set_option maxRecDepth 20000 in
theorem ggX2_sequencePurge_X2_hasFlame : GoodIn wsX2_sequencePurge wsX2_hasFlame := goodIn_r _ [19, 20, 21, 26, 27, 28, 29, 30, 31, 32, 33, 34, 35, 36, 48, 49] (by decide +kernel) (by decide +kernel)
set_option maxRecDepth 20000 in
theorem gX2_sequencePurge_X2_hasFlame : GoodIn wsX2_sequencePurge (wsV RX2 139 RX2 yX2_hasFlame wsX2_hasFlame) := goodIn_app (goodIn_of _ (by decide +kernel)) ggX2_sequencePurge_X2_hasFlame
set_option maxRecDepth 20000 in
theorem ggX2_sequencePurge_X2_lockOut : GoodIn wsX2_sequencePurge wsX2_lockOut := goodIn_r _ [25, 8, 9, 10, 11, 12, 13, 14, 4, 2, 15, 26, 27, 28, 29, 30, 31, 32, 33, 34, 35, 36] (by decide +kernel) (by decide +kernel)
set_option maxRecDepth 20000 in
theorem gX2_sequencePurge_X2_lockOut : GoodIn wsX2_sequencePurge (wsV RX2 142 RX2 yX2_lockOut wsX2_lockOut) := goodIn_app (goodIn_of _ (by decide +kernel)) ggX2_sequencePurge_X2_lockOut
theorem dX2_sequencePurge_0 : decode cX2_sequencePurge 0 = .ok (.iload_n 1, 1) := by decide +kernel
theorem dX2_sequencePurge_1 : decode cX2_sequencePurge 1 = .ok (.iconst 1, 1) := by decide +kernel
theorem dX2_sequencePurge_2 : decode cX2_sequencePurge 2 = .ok (.invokestatic 65, 3) := by decide +kernel
theorem dX2_sequencePurge_5 : decode cX2_sequencePurge 5 = .ok (.ifCond .ne 10, 3) := by decide +kernel
theorem dX2_sequencePurge_8 : decode cX2_sequencePurge 8 = .ok (.aload_n 0, 1) := by decide +kernel
theorem dX2_sequencePurge_9 : decode cX2_sequencePurge 9 = .ok (.iconst 0, 1) := by decide +kernel
theorem dX2_sequencePurge_10 : decode cX2_sequencePurge 10 = .ok (.iconst 0, 1) := by decide +kernel
theorem dX2_sequencePurge_11 : decode cX2_sequencePurge 11 = .ok (.invokevirtual 145, 3) := by decide +kernel
theorem dX2_sequencePurge_14 : decode cX2_sequencePurge 14 = .ok (.ireturn, 1) := by decide +kernel
theorem dX2_sequencePurge_15 : decode cX2_sequencePurge 15 = .ok (.aload_n 0, 1) := by decide +kernel
theorem dX2_sequencePurge_16 : decode cX2_sequencePurge 16 = .ok (.invokevirtual 139, 3) := by decide +kernel
theorem dX2_sequencePurge_19 : decode cX2_sequencePurge 19 = .ok (.ifCond .eq 9, 3) := by decide +kernel
theorem dX2_sequencePurge_22 : decode cX2_sequencePurge 22 = .ok (.aload_n 0, 1) := by decide +kernel
theorem dX2_sequencePurge_23 : decode cX2_sequencePurge 23 = .ok (.iconst 3, 1) := by decide +kernel
theorem dX2_sequencePurge_24 : decode cX2_sequencePurge 24 = .ok (.invokevirtual 142, 3) := by decide +kernel
theorem dX2_sequencePurge_27 : decode cX2_sequencePurge 27 = .ok (.ireturn, 1) := by decide +kernel
theorem dX2_sequencePurge_28 : decode cX2_sequencePurge 28 = .ok (.aload_n 0, 1) := by decide +kernel
theorem dX2_sequencePurge_29 : decode cX2_sequencePurge 29 = .ok (.iload_n 1, 1) := by decide +kernel
theorem dX2_sequencePurge_30 : decode cX2_sequencePurge 30 = .ok (.iconst 2, 1) := by decide +kernel
theorem dX2_sequencePurge_31 : decode cX2_sequencePurge 31 = .ok (.invokestatic 65, 3) := by decide +kernel
theorem dX2_sequencePurge_34 : decode cX2_sequencePurge 34 = .ok (.ifCond .eq 24, 3) := by decide +kernel
theorem dX2_sequencePurge_37 : decode cX2_sequencePurge 37 = .ok (.aload_n 0, 1) := by decide +kernel
theorem dX2_sequencePurge_38 : decode cX2_sequencePurge 38 = .ok (.getfield 39, 3) := by decide +kernel
theorem dX2_sequencePurge_41 : decode cX2_sequencePurge 41 = .ok (.bipush 70, 2) := by decide +kernel
theorem dX2_sequencePurge_43 : decode cX2_sequencePurge 43 = .ok (.if_icmp .lt 15, 3) := by decide +kernel
theorem dX2_sequencePurge_46 : decode cX2_sequencePurge 46 = .ok (.aload_n 0, 1) := by decide +kernel
theorem dX2_sequencePurge_47 : decode cX2_sequencePurge 47 = .ok (.getfield 45, 3) := by decide +kernel
theorem dX2_sequencePurge_50 : decode cX2_sequencePurge 50 = .ok (.aload_n 0, 1) := by decide +kernel
theorem dX2_sequencePurge_51 : decode cX2_sequencePurge 51 = .ok (.getfield 39, 3) := by decide +kernel
theorem dX2_sequencePurge_54 : decode cX2_sequencePurge 54 = .ok (.iadd, 1) := by decide +kernel
theorem dX2_sequencePurge_55 : decode cX2_sequencePurge 55 = .ok (.goto 4, 3) := by decide +kernel
theorem dX2_sequencePurge_58 : decode cX2_sequencePurge 58 = .ok (.iconst 0, 1) := by decide +kernel
theorem dX2_sequencePurge_59 : decode cX2_sequencePurge 59 = .ok (.putfield 45, 3) := by decide +kernel
theorem dX2_sequencePurge_62 : decode cX2_sequencePurge 62 = .ok (.aload_n 0, 1) := by decide +kernel
theorem dX2_sequencePurge_63 : decode cX2_sequencePurge 63 = .ok (.getfield 45, 3) := by decide +kernel
theorem dX2_sequencePurge_66 : decode cX2_sequencePurge 66 = .ok (.iconst 4, 1) := by decide +kernel
theorem dX2_sequencePurge_67 : decode cX2_sequencePurge 67 = .ok (.aload_n 0, 1) := by decide +kernel
theorem dX2_sequencePurge_68 : decode cX2_sequencePurge 68 = .ok (.getfield 21, 3) := by decide +kernel
theorem dX2_sequencePurge_71 : decode cX2_sequencePurge 71 = .ok (.getfield 148, 3) := by decide +kernel
theorem dX2_sequencePurge_74 : decode cX2_sequencePurge 74 = .ok (.imul, 1) := by decide +kernel
theorem dX2_sequencePurge_75 : decode cX2_sequencePurge 75 = .ok (.if_icmp .lt 10, 3) := by decide +kernel
theorem dX2_sequencePurge_78 : decode cX2_sequencePurge 78 = .ok (.aload_n 0, 1) := by decide +kernel
theorem dX2_sequencePurge_79 : decode cX2_sequencePurge 79 = .ok (.iconst 2, 1) := by decide +kernel
theorem dX2_sequencePurge_80 : decode cX2_sequencePurge 80 = .ok (.iconst 0, 1) := by decide +kernel
theorem dX2_sequencePurge_81 : decode cX2_sequencePurge 81 = .ok (.invokevirtual 145, 3) := by decide +kernel
theorem dX2_sequencePurge_84 : decode cX2_sequencePurge 84 = .ok (.ireturn, 1) := by decide +kernel
theorem dX2_sequencePurge_85 : decode cX2_sequencePurge 85 = .ok (.aload_n 0, 1) := by decide +kernel
theorem dX2_sequencePurge_86 : decode cX2_sequencePurge 86 = .ok (.getfield 36, 3) := by decide +kernel
theorem dX2_sequencePurge_89 : decode cX2_sequencePurge 89 = .ok (.aload_n 0, 1) := by decide +kernel
theorem dX2_sequencePurge_90 : decode cX2_sequencePurge 90 = .ok (.getfield 21, 3) := by decide +kernel
theorem dX2_sequencePurge_93 : decode cX2_sequencePurge 93 = .ok (.getfield 151, 3) := by decide +kernel
theorem dX2_sequencePurge_96 : decode cX2_sequencePurge 96 = .ok (.if_icmp .lt 16, 3) := by decide +kernel
theorem dX2_sequencePurge_99 : decode cX2_sequencePurge 99 = .ok (.aload_n 0, 1) := by decide +kernel
theorem dX2_sequencePurge_100 : decode cX2_sequencePurge 100 = .ok (.bipush 7, 2) := by decide +kernel
theorem dX2_sequencePurge_102 : decode cX2_sequencePurge 102 = .ok (.invokevirtual 142, 3) := by decide +kernel
theorem dX2_sequencePurge_105 : decode cX2_sequencePurge 105 = .ok (.ifCond .eq 7, 3) := by decide +kernel
theorem dX2_sequencePurge_108 : decode cX2_sequencePurge 108 = .ok (.iconst 1, 1) := by decide +kernel
theorem dX2_sequencePurge_109 : decode cX2_sequencePurge 109 = .ok (.goto 4, 3) := by decide +kernel
theorem dX2_sequencePurge_112 : decode cX2_sequencePurge 112 = .ok (.iconst 0, 1) := by decide +kernel
theorem dX2_sequencePurge_113 : decode cX2_sequencePurge 113 = .ok (.ireturn, 1) := by decide +kernel
set_option maxRecDepth 20000 in
theorem ggX2_sequenceLighting_X6_isOn : GoodIn wsX2_sequenceLighting wsX6_isOn := goodIn_r _ [4] (by decide +kernel) (by decide +kernel)
set_option maxRecDepth 20000 in
theorem gX2_sequenceLighting_X6_isOn_n65 : GoodIn wsX2_sequenceLighting (wsX6_isOn) := ggX2_sequenceLighting_X6_isOn
set_option maxRecDepth 20000 in
theorem ggX2_sequenceLighting_X2_lockOut : GoodIn wsX2_sequenceLighting wsX2_lockOut := goodIn_r _ [9, 10, 11, 12, 8, 13, 1, 14, 15, 16, 17, 29, 30, 31, 32, 33, 34, 35, 36, 37, 38, 39] (by decide +kernel) (by decide +kernel)
set_option maxRecDepth 20000 in
theorem gX2_sequenceLighting_X2_lockOut : GoodIn wsX2_sequenceLighting (wsV RX2 142 RX2 yX2_lockOut wsX2_lockOut) := goodIn_app (goodIn_of _ (by decide +kernel)) ggX2_sequenceLighting_X2_lockOut
set_option maxRecDepth 20000 in
theorem ggX2_sequenceLighting_X2_begin : GoodIn wsX2_sequenceLighting wsX2_begin := goodIn_r _ [13, 1, 14, 15, 16, 17, 29, 30, 31, 32, 33, 34, 35, 36, 37, 38, 39] (by decide +kernel) (by decide +kernel)
set_option maxRecDepth 20000 in
theorem gX2_sequenceLighting_X2_begin : GoodIn wsX2_sequenceLighting (wsV RX2 145 RX2 yX2_begin wsX2_begin) := goodIn_app (goodIn_of _ (by decide +kernel)) ggX2_sequenceLighting_X2_begin
set_option maxRecDepth 20000 in
theorem ggX2_sequenceLighting_X2_lightPilot : GoodIn wsX2_sequenceLighting wsX2_lightPilot := goodIn_r _ [21, 22, 15, 23, 10, 11, 12, 8, 13, 1, 14, 16, 17, 5, 6, 7, 9, 29, 30, 31, 32, 33, 34, 35, 36, 37, 38, 39, 40, 41, 42, 43, 44, 45, 46, 47, 48, 49, 50, 51, 52] (by decide +kernel) (by decide +kernel)
set_option maxRecDepth 20000 in
theorem gX2_sequenceLighting_X2_lightPilot : GoodIn wsX2_sequenceLighting (wsV RX2 154 RX2 yX2_lightPilot wsX2_lightPilot) := goodIn_app (goodIn_of _ (by decide +kernel)) ggX2_sequenceLighting_X2_lightPilot
set_option maxRecDepth 20000 in
theorem ggX2_sequenceLighting_X2_lightMain : GoodIn wsX2_sequenceLighting wsX2_lightMain := goodIn_r _ [27, 28, 15, 23, 10, 11, 12, 8, 13, 1, 14, 16, 17, 5, 6, 7, 9, 29, 30, 31, 32, 33, 34, 35, 36, 37, 38, 39, 40, 41, 42, 43, 44, 45, 46, 47, 48, 49, 50, 51, 52] (by decide +kernel) (by decide +kernel)
set_option maxRecDepth 20000 in
theorem gX2_sequenceLighting_X2_lightMain : GoodIn wsX2_sequenceLighting (wsV RX2 157 RX2 yX2_lightMain wsX2_lightMain) := goodIn_app (goodIn_of _ (by decide +kernel)) ggX2_sequenceLighting_X2_lightMain
theorem dX2_sequenceLighting_0 : decode cX2_sequenceLighting 0 = .ok (.iload_n 1, 1) := by decide +kernel
theorem dX2_sequenceLighting_1 : decode cX2_sequenceLighting 1 = .ok (.iconst 2, 1) := by decide +kernel
theorem dX2_sequenceLighting_2 : decode cX2_sequenceLighting 2 = .ok (.invokestatic 65, 3) := by decide +kernel
theorem dX2_sequenceLighting_5 : decode cX2_sequenceLighting 5 = .ok (.ifCond .ne 9, 3) := by decide +kernel
theorem dX2_sequenceLighting_8 : decode cX2_sequenceLighting 8 = .ok (.aload_n 0, 1) := by decide +kernel
theorem dX2_sequenceLighting_9 : decode cX2_sequenceLighting 9 = .ok (.iconst 1, 1) := by decide +kernel
theorem dX2_sequenceLighting_10 : decode cX2_sequenceLighting 10 = .ok (.invokevirtual 142, 3) := by decide +kernel
theorem dX2_sequenceLighting_13 : decode cX2_sequenceLighting 13 = .ok (.ireturn, 1) := by decide +kernel
theorem dX2_sequenceLighting_14 : decode cX2_sequenceLighting 14 = .ok (.iload_n 1, 1) := by decide +kernel
theorem dX2_sequenceLighting_15 : decode cX2_sequenceLighting 15 = .ok (.iconst 4, 1) := by decide +kernel
theorem dX2_sequenceLighting_16 : decode cX2_sequenceLighting 16 = .ok (.invokestatic 65, 3) := by decide +kernel
theorem dX2_sequenceLighting_19 : decode cX2_sequenceLighting 19 = .ok (.ifCond .ne 9, 3) := by decide +kernel
theorem dX2_sequenceLighting_22 : decode cX2_sequenceLighting 22 = .ok (.aload_n 0, 1) := by decide +kernel
theorem dX2_sequenceLighting_23 : decode cX2_sequenceLighting 23 = .ok (.iconst 2, 1) := by decide +kernel
theorem dX2_sequenceLighting_24 : decode cX2_sequenceLighting 24 = .ok (.invokevirtual 142, 3) := by decide +kernel
theorem dX2_sequenceLighting_27 : decode cX2_sequenceLighting 27 = .ok (.ireturn, 1) := by decide +kernel
theorem dX2_sequenceLighting_28 : decode cX2_sequenceLighting 28 = .ok (.iload_n 1, 1) := by decide +kernel
theorem dX2_sequenceLighting_29 : decode cX2_sequenceLighting 29 = .ok (.iconst 1, 1) := by decide +kernel
theorem dX2_sequenceLighting_30 : decode cX2_sequenceLighting 30 = .ok (.invokestatic 65, 3) := by decide +kernel
theorem dX2_sequenceLighting_33 : decode cX2_sequenceLighting 33 = .ok (.ifCond .ne 10, 3) := by decide +kernel
theorem dX2_sequenceLighting_36 : decode cX2_sequenceLighting 36 = .ok (.aload_n 0, 1) := by decide +kernel
theorem dX2_sequenceLighting_37 : decode cX2_sequenceLighting 37 = .ok (.iconst 5, 1) := by decide +kernel
theorem dX2_sequenceLighting_38 : decode cX2_sequenceLighting 38 = .ok (.iconst 0, 1) := by decide +kernel
theorem dX2_sequenceLighting_39 : decode cX2_sequenceLighting 39 = .ok (.invokevirtual 145, 3) := by decide +kernel
theorem dX2_sequenceLighting_42 : decode cX2_sequenceLighting 42 = .ok (.ireturn, 1) := by decide +kernel
theorem dX2_sequenceLighting_43 : decode cX2_sequenceLighting 43 = .ok (.aload_n 0, 1) := by decide +kernel
theorem dX2_sequenceLighting_44 : decode cX2_sequenceLighting 44 = .ok (.getfield 29, 3) := by decide +kernel
theorem dX2_sequenceLighting_47 : decode cX2_sequenceLighting 47 = .ok (.iconst 2, 1) := by decide +kernel
theorem dX2_sequenceLighting_48 : decode cX2_sequenceLighting 48 = .ok (.if_icmp .ne 10, 3) := by decide +kernel
theorem dX2_sequenceLighting_51 : decode cX2_sequenceLighting 51 = .ok (.aload_n 0, 1) := by decide +kernel
theorem dX2_sequenceLighting_52 : decode cX2_sequenceLighting 52 = .ok (.invokevirtual 154, 3) := by decide +kernel
theorem dX2_sequenceLighting_55 : decode cX2_sequenceLighting 55 = .ok (.goto 7, 3) := by decide +kernel
theorem dX2_sequenceLighting_58 : decode cX2_sequenceLighting 58 = .ok (.aload_n 0, 1) := by decide +kernel
theorem dX2_sequenceLighting_59 : decode cX2_sequenceLighting 59 = .ok (.invokevirtual 157, 3) := by decide +kernel
theorem dX2_sequenceLighting_62 : decode cX2_sequenceLighting 62 = .ok (.ireturn, 1) := by decide +kernel
set_option maxRecDepth 20000 in
theorem ggX2_lightPilot_X2_begin : GoodIn wsX2_lightPilot wsX2_begin := goodIn_r _ [8, 9, 10, 2, 11, 12, 17, 18, 19, 20, 21, 22, 23, 24, 25, 26, 27] (by decide +kernel) (by decide +kernel)
set_option maxRecDepth 20000 in
theorem gX2_lightPilot_X2_begin : GoodIn wsX2_lightPilot (wsV RX2 145 RX2 yX2_begin wsX2_begin) := goodIn_app (goodIn_of _ (by decide +kernel)) ggX2_lightPilot_X2_begin
set_option maxRecDepth 20000 in
theorem ggX2_lightPilot_X2_lockOut : GoodIn wsX2_lightPilot wsX2_lockOut := goodIn_r _ [16, 4, 5, 6, 7, 8, 9, 10, 2, 11, 12, 17, 18, 19, 20, 21, 22, 23, 24, 25, 26, 27] (by decide +kernel) (by decide +kernel)
set_option maxRecDepth 20000 in
theorem gX2_lightPilot_X2_lockOut : GoodIn wsX2_lightPilot (wsV RX2 142 RX2 yX2_lockOut wsX2_lockOut) := goodIn_app (goodIn_of _ (by decide +kernel)) ggX2_lightPilot_X2_lockOut
theorem dX2_lightPilot_0 : decode cX2_lightPilot 0 = .ok (.aload_n 0, 1) := by decide +kernel
theorem dX2_lightPilot_1 : decode cX2_lightPilot 1 = .ok (.getfield 12, 3) := by decide +kernel
theorem dX2_lightPilot_4 : decode cX2_lightPilot 4 = .ok (.getfield 54, 3) := by decide +kernel
theorem dX2_lightPilot_7 : decode cX2_lightPilot 7 = .ok (.ifCond .eq 10, 3) := by decide +kernel
theorem dX2_lightPilot_10 : decode cX2_lightPilot 10 = .ok (.aload_n 0, 1) := by decide +kernel
theorem dX2_lightPilot_11 : decode cX2_lightPilot 11 = .ok (.iconst 3, 1) := by decide +kernel
theorem dX2_lightPilot_12 : decode cX2_lightPilot 12 = .ok (.iconst 0, 1) := by decide +kernel
theorem dX2_lightPilot_13 : decode cX2_lightPilot 13 = .ok (.invokevirtual 145, 3) := by decide +kernel
theorem dX2_lightPilot_16 : decode cX2_lightPilot 16 = .ok (.ireturn, 1) := by decide +kernel
theorem dX2_lightPilot_17 : decode cX2_lightPilot 17 = .ok (.aload_n 0, 1) := by decide +kernel
theorem dX2_lightPilot_18 : decode cX2_lightPilot 18 = .ok (.getfield 36, 3) := by decide +kernel
theorem dX2_lightPilot_21 : decode cX2_lightPilot 21 = .ok (.aload_n 0, 1) := by decide +kernel
theorem dX2_lightPilot_22 : decode cX2_lightPilot 22 = .ok (.getfield 21, 3) := by decide +kernel
theorem dX2_lightPilot_25 : decode cX2_lightPilot 25 = .ok (.getfield 160, 3) := by decide +kernel
theorem dX2_lightPilot_28 : decode cX2_lightPilot 28 = .ok (.if_icmp .lt 15, 3) := by decide +kernel
theorem dX2_lightPilot_31 : decode cX2_lightPilot 31 = .ok (.aload_n 0, 1) := by decide +kernel
theorem dX2_lightPilot_32 : decode cX2_lightPilot 32 = .ok (.iconst 4, 1) := by decide +kernel
theorem dX2_lightPilot_33 : decode cX2_lightPilot 33 = .ok (.invokevirtual 142, 3) := by decide +kernel
theorem dX2_lightPilot_36 : decode cX2_lightPilot 36 = .ok (.ifCond .eq 7, 3) := by decide +kernel
theorem dX2_lightPilot_39 : decode cX2_lightPilot 39 = .ok (.iconst 1, 1) := by decide +kernel
theorem dX2_lightPilot_40 : decode cX2_lightPilot 40 = .ok (.goto 4, 3) := by decide +kernel
theorem dX2_lightPilot_43 : decode cX2_lightPilot 43 = .ok (.iconst 0, 1) := by decide +kernel
theorem dX2_lightPilot_44 : decode cX2_lightPilot 44 = .ok (.ireturn, 1) := by decide +kernel
set_option maxRecDepth 20000 in
theorem ggX2_lightMain_X2_begin : GoodIn wsX2_lightMain wsX2_begin := goodIn_r _ [8, 9, 10, 2, 11, 12, 17, 18, 19, 20, 21, 22, 23, 24, 25, 26, 27] (by decide +kernel) (by decide +kernel)
set_option maxRecDepth 20000 in
theorem gX2_lightMain_X2_begin : GoodIn wsX2_lightMain (wsV RX2 145 RX2 yX2_begin wsX2_begin) := goodIn_app (goodIn_of _ (by decide +kernel)) ggX2_lightMain_X2_begin
set_option maxRecDepth 20000 in
theorem ggX2_lightMain_X2_lockOut : GoodIn wsX2_lightMain wsX2_lockOut := goodIn_r _ [16, 4, 5, 6, 7, 8, 9, 10, 2, 11, 12, 17, 18, 19, 20, 21, 22, 23, 24, 25, 26, 27] (by decide +kernel) (by decide +kernel)
set_option maxRecDepth 20000 in
theorem gX2_lightMain_X2_lockOut : GoodIn wsX2_lightMain (wsV RX2 142 RX2 yX2_lockOut wsX2_lockOut) := goodIn_app (goodIn_of _ (by decide +kernel)) ggX2_lightMain_X2_lockOut
theorem dX2_lightMain_0 : decode cX2_lightMain 0 = .ok (.aload_n 0, 1) := by decide +kernel
theorem dX2_lightMain_1 : decode cX2_lightMain 1 = .ok (.getfield 18, 3) := by decide +kernel
theorem dX2_lightMain_4 : decode cX2_lightMain 4 = .ok (.getfield 54, 3) := by decide +kernel
theorem dX2_lightMain_7 : decode cX2_lightMain 7 = .ok (.ifCond .eq 10, 3) := by decide +kernel
theorem dX2_lightMain_10 : decode cX2_lightMain 10 = .ok (.aload_n 0, 1) := by decide +kernel
theorem dX2_lightMain_11 : decode cX2_lightMain 11 = .ok (.iconst 4, 1) := by decide +kernel
theorem dX2_lightMain_12 : decode cX2_lightMain 12 = .ok (.iconst 0, 1) := by decide +kernel
theorem dX2_lightMain_13 : decode cX2_lightMain 13 = .ok (.invokevirtual 145, 3) := by decide +kernel
theorem dX2_lightMain_16 : decode cX2_lightMain 16 = .ok (.ireturn, 1) := by decide +kernel
theorem dX2_lightMain_17 : decode cX2_lightMain 17 = .ok (.aload_n 0, 1) := by decide +kernel
theorem dX2_lightMain_18 : decode cX2_lightMain 18 = .ok (.getfield 36, 3) := by decide +kernel
theorem dX2_lightMain_21 : decode cX2_lightMain 21 = .ok (.aload_n 0, 1) := by decide +kernel
theorem dX2_lightMain_22 : decode cX2_lightMain 22 = .ok (.getfield 21, 3) := by decide +kernel
theorem dX2_lightMain_25 : decode cX2_lightMain 25 = .ok (.getfield 163, 3) := by decide +kernel
theorem dX2_lightMain_28 : decode cX2_lightMain 28 = .ok (.if_icmp .lt 15, 3) := by decide +kernel
theorem dX2_lightMain_31 : decode cX2_lightMain 31 = .ok (.aload_n 0, 1) := by decide +kernel
theorem dX2_lightMain_32 : decode cX2_lightMain 32 = .ok (.iconst 5, 1) := by decide +kernel
theorem dX2_lightMain_33 : decode cX2_lightMain 33 = .ok (.invokevirtual 142, 3) := by decide +kernel
theorem dX2_lightMain_36 : decode cX2_lightMain 36 = .ok (.ifCond .eq 7, 3) := by decide +kernel
theorem dX2_lightMain_39 : decode cX2_lightMain 39 = .ok (.iconst 1, 1) := by decide +kernel
theorem dX2_lightMain_40 : decode cX2_lightMain 40 = .ok (.goto 4, 3) := by decide +kernel
theorem dX2_lightMain_43 : decode cX2_lightMain 43 = .ok (.iconst 0, 1) := by decide +kernel
theorem dX2_lightMain_44 : decode cX2_lightMain 44 = .ok (.ireturn, 1) := by decide +kernel
set_option maxRecDepth 20000 in
theorem ggX2_sequenceRun_X6_isOn : GoodIn wsX2_sequenceRun wsX6_isOn := goodIn_r _ [4] (by decide +kernel) (by decide +kernel)
set_option maxRecDepth 20000 in
theorem gX2_sequenceRun_X6_isOn_n65 : GoodIn wsX2_sequenceRun (wsX6_isOn) := ggX2_sequenceRun_X6_isOn
set_option maxRecDepth 20000 in
theorem ggX2_sequenceRun_X2_lockOut : GoodIn wsX2_sequenceRun wsX2_lockOut := goodIn_r _ [9, 10, 11, 12, 8, 13, 14, 15, 16, 17, 18, 24, 25, 26, 27, 28, 29, 30, 31, 32, 33, 34] (by decide +kernel) (by decide +kernel)
set_option maxRecDepth 20000 in
theorem gX2_sequenceRun_X2_lockOut : GoodIn wsX2_sequenceRun (wsV RX2 142 RX2 yX2_lockOut wsX2_lockOut) := goodIn_app (goodIn_of _ (by decide +kernel)) ggX2_sequenceRun_X2_lockOut
set_option maxRecDepth 20000 in
theorem ggX2_sequenceRun_X2_isCheckDue : GoodIn wsX2_sequenceRun wsX2_isCheckDue := goodIn_r _ [22, 23, 16, 24, 25, 26, 27, 28, 29, 30, 31, 32, 33, 34, 37, 38, 39, 40, 41, 42, 43, 44, 45, 46, 47] (by decide +kernel) (by decide +kernel)
set_option maxRecDepth 20000 in
theorem gX2_sequenceRun_X2_isCheckDue : GoodIn wsX2_sequenceRun (wsV RX2 166 RX2 yX2_isCheckDue wsX2_isCheckDue) := goodIn_app (goodIn_of _ (by decide +kernel)) ggX2_sequenceRun_X2_isCheckDue
set_option maxRecDepth 20000 in
theorem ggX2_sequenceRun_X2_begin : GoodIn wsX2_sequenceRun wsX2_begin := goodIn_r _ [13, 14, 15, 16, 17, 18, 24, 25, 26, 27, 28, 29, 30, 31, 32, 33, 34] (by decide +kernel) (by decide +kernel)
set_option maxRecDepth 20000 in
theorem gX2_sequenceRun_X2_begin : GoodIn wsX2_sequenceRun (wsV RX2 145 RX2 yX2_begin wsX2_begin) := goodIn_app (goodIn_of _ (by decide +kernel)) ggX2_sequenceRun_X2_begin
theorem dX2_sequenceRun_0 : decode cX2_sequenceRun 0 = .ok (.iload_n 1, 1) := by decide +kernel
theorem dX2_sequenceRun_1 : decode cX2_sequenceRun 1 = .ok (.iconst 2, 1) := by decide +kernel
theorem dX2_sequenceRun_2 : decode cX2_sequenceRun 2 = .ok (.invokestatic 65, 3) := by decide +kernel
theorem dX2_sequenceRun_5 : decode cX2_sequenceRun 5 = .ok (.ifCond .ne 9, 3) := by decide +kernel
theorem dX2_sequenceRun_8 : decode cX2_sequenceRun 8 = .ok (.aload_n 0, 1) := by decide +kernel
theorem dX2_sequenceRun_9 : decode cX2_sequenceRun 9 = .ok (.iconst 1, 1) := by decide +kernel
theorem dX2_sequenceRun_10 : decode cX2_sequenceRun 10 = .ok (.invokevirtual 142, 3) := by decide +kernel
theorem dX2_sequenceRun_13 : decode cX2_sequenceRun 13 = .ok (.ireturn, 1) := by decide +kernel
theorem dX2_sequenceRun_14 : decode cX2_sequenceRun 14 = .ok (.iload_n 1, 1) := by decide +kernel
theorem dX2_sequenceRun_15 : decode cX2_sequenceRun 15 = .ok (.iconst 4, 1) := by decide +kernel
theorem dX2_sequenceRun_16 : decode cX2_sequenceRun 16 = .ok (.invokestatic 65, 3) := by decide +kernel
theorem dX2_sequenceRun_19 : decode cX2_sequenceRun 19 = .ok (.ifCond .ne 9, 3) := by decide +kernel
theorem dX2_sequenceRun_22 : decode cX2_sequenceRun 22 = .ok (.aload_n 0, 1) := by decide +kernel
theorem dX2_sequenceRun_23 : decode cX2_sequenceRun 23 = .ok (.iconst 2, 1) := by decide +kernel
theorem dX2_sequenceRun_24 : decode cX2_sequenceRun 24 = .ok (.invokevirtual 142, 3) := by decide +kernel
theorem dX2_sequenceRun_27 : decode cX2_sequenceRun 27 = .ok (.ireturn, 1) := by decide +kernel
theorem dX2_sequenceRun_28 : decode cX2_sequenceRun 28 = .ok (.aload_n 0, 1) := by decide +kernel
theorem dX2_sequenceRun_29 : decode cX2_sequenceRun 29 = .ok (.getfield 18, 3) := by decide +kernel
theorem dX2_sequenceRun_32 : decode cX2_sequenceRun 32 = .ok (.getfield 54, 3) := by decide +kernel
theorem dX2_sequenceRun_35 : decode cX2_sequenceRun 35 = .ok (.ifCond .ne 10, 3) := by decide +kernel
theorem dX2_sequenceRun_38 : decode cX2_sequenceRun 38 = .ok (.aload_n 0, 1) := by decide +kernel
theorem dX2_sequenceRun_39 : decode cX2_sequenceRun 39 = .ok (.bipush 6, 2) := by decide +kernel
theorem dX2_sequenceRun_41 : decode cX2_sequenceRun 41 = .ok (.invokevirtual 142, 3) := by decide +kernel
theorem dX2_sequenceRun_44 : decode cX2_sequenceRun 44 = .ok (.ireturn, 1) := by decide +kernel
theorem dX2_sequenceRun_45 : decode cX2_sequenceRun 45 = .ok (.aload_n 0, 1) := by decide +kernel
theorem dX2_sequenceRun_46 : decode cX2_sequenceRun 46 = .ok (.invokevirtual 166, 3) := by decide +kernel
theorem dX2_sequenceRun_49 : decode cX2_sequenceRun 49 = .ok (.ifCond .eq 19, 3) := by decide +kernel
theorem dX2_sequenceRun_52 : decode cX2_sequenceRun 52 = .ok (.iload_n 1, 1) := by decide +kernel
theorem dX2_sequenceRun_53 : decode cX2_sequenceRun 53 = .ok (.bipush 32, 2) := by decide +kernel
theorem dX2_sequenceRun_55 : decode cX2_sequenceRun 55 = .ok (.invokestatic 65, 3) := by decide +kernel
theorem dX2_sequenceRun_58 : decode cX2_sequenceRun 58 = .ok (.ifCond .ne 10, 3) := by decide +kernel
theorem dX2_sequenceRun_61 : decode cX2_sequenceRun 61 = .ok (.aload_n 0, 1) := by decide +kernel
theorem dX2_sequenceRun_62 : decode cX2_sequenceRun 62 = .ok (.bipush 8, 2) := by decide +kernel
theorem dX2_sequenceRun_64 : decode cX2_sequenceRun 64 = .ok (.invokevirtual 142, 3) := by decide +kernel
theorem dX2_sequenceRun_67 : decode cX2_sequenceRun 67 = .ok (.ireturn, 1) := by decide +kernel
theorem dX2_sequenceRun_68 : decode cX2_sequenceRun 68 = .ok (.iload_n 1, 1) := by decide +kernel
theorem dX2_sequenceRun_69 : decode cX2_sequenceRun 69 = .ok (.iconst 1, 1) := by decide +kernel
theorem dX2_sequenceRun_70 : decode cX2_sequenceRun 70 = .ok (.invokestatic 65, 3) := by decide +kernel
theorem dX2_sequenceRun_73 : decode cX2_sequenceRun 73 = .ok (.ifCond .ne 16, 3) := by decide +kernel
theorem dX2_sequenceRun_76 : decode cX2_sequenceRun 76 = .ok (.aload_n 0, 1) := by decide +kernel
theorem dX2_sequenceRun_77 : decode cX2_sequenceRun 77 = .ok (.iconst 5, 1) := by decide +kernel
theorem dX2_sequenceRun_78 : decode cX2_sequenceRun 78 = .ok (.iconst 0, 1) := by decide +kernel
theorem dX2_sequenceRun_79 : decode cX2_sequenceRun 79 = .ok (.invokevirtual 145, 3) := by decide +kernel
theorem dX2_sequenceRun_82 : decode cX2_sequenceRun 82 = .ok (.ifCond .eq 7, 3) := by decide +kernel
theorem dX2_sequenceRun_85 : decode cX2_sequenceRun 85 = .ok (.iconst 1, 1) := by decide +kernel
theorem dX2_sequenceRun_86 : decode cX2_sequenceRun 86 = .ok (.goto 4, 3) := by decide +kernel
theorem dX2_sequenceRun_89 : decode cX2_sequenceRun 89 = .ok (.iconst 0, 1) := by decide +kernel
theorem dX2_sequenceRun_90 : decode cX2_sequenceRun 90 = .ok (.ireturn, 1) := by decide +kernel
theorem dX2_isCheckDue_0 : decode cX2_isCheckDue 0 = .ok (.aload_n 0, 1) := by decide +kernel
theorem dX2_isCheckDue_1 : decode cX2_isCheckDue 1 = .ok (.getfield 21, 3) := by decide +kernel
theorem dX2_isCheckDue_4 : decode cX2_isCheckDue 4 = .ok (.getfield 169, 3) := by decide +kernel
theorem dX2_isCheckDue_7 : decode cX2_isCheckDue 7 = .ok (.ifCond .le 22, 3) := by decide +kernel
theorem dX2_isCheckDue_10 : decode cX2_isCheckDue 10 = .ok (.aload_n 0, 1) := by decide +kernel
theorem dX2_isCheckDue_11 : decode cX2_isCheckDue 11 = .ok (.getfield 36, 3) := by decide +kernel
theorem dX2_isCheckDue_14 : decode cX2_isCheckDue 14 = .ok (.aload_n 0, 1) := by decide +kernel
theorem dX2_isCheckDue_15 : decode cX2_isCheckDue 15 = .ok (.getfield 21, 3) := by decide +kernel
theorem dX2_isCheckDue_18 : decode cX2_isCheckDue 18 = .ok (.getfield 169, 3) := by decide +kernel
theorem dX2_isCheckDue_21 : decode cX2_isCheckDue 21 = .ok (.irem, 1) := by decide +kernel
theorem dX2_isCheckDue_22 : decode cX2_isCheckDue 22 = .ok (.ifCond .ne 7, 3) := by decide +kernel
theorem dX2_isCheckDue_25 : decode cX2_isCheckDue 25 = .ok (.iconst 1, 1) := by decide +kernel
theorem dX2_isCheckDue_26 : decode cX2_isCheckDue 26 = .ok (.goto 4, 3) := by decide +kernel
theorem dX2_isCheckDue_29 : decode cX2_isCheckDue 29 = .ok (.iconst 0, 1) := by decide +kernel
theorem dX2_isCheckDue_30 : decode cX2_isCheckDue 30 = .ok (.ireturn, 1) := by decide +kernel
set_option maxRecDepth 20000 in
theorem ggX2_sequenceAfterPurge_X2_hasFlame : GoodIn wsX2_sequenceAfterPurge wsX2_hasFlame := goodIn_r _ [7, 8, 9, 22, 23, 24, 25, 26, 27, 28, 29, 30, 31, 32, 44, 45] (by decide +kernel) (by decide +kernel)
set_option maxRecDepth 20000 in
theorem gX2_sequenceAfterPurge_X2_hasFlame : GoodIn wsX2_sequenceAfterPurge (wsV RX2 139 RX2 yX2_hasFlame wsX2_hasFlame) := goodIn_app (goodIn_of _ (by decide +kernel)) ggX2_sequenceAfterPurge_X2_hasFlame
set_option maxRecDepth 20000 in
theorem ggX2_sequenceAfterPurge_X2_lockOut : GoodIn wsX2_sequenceAfterPurge wsX2_lockOut := goodIn_r _ [13, 14, 15, 16, 6, 17, 18, 19, 1, 20, 21, 22, 23, 24, 25, 26, 27, 28, 29, 30, 31, 32] (by decide +kernel) (by decide +kernel)
set_option maxRecDepth 20000 in
theorem gX2_sequenceAfterPurge_X2_lockOut : GoodIn wsX2_sequenceAfterPurge (wsV RX2 142 RX2 yX2_lockOut wsX2_lockOut) := goodIn_app (goodIn_of _ (by decide +kernel)) ggX2_sequenceAfterPurge_X2_lockOut
set_option maxRecDepth 20000 in
theorem ggX2_sequenceAfterPurge_X2_begin : GoodIn wsX2_sequenceAfterPurge wsX2_begin := goodIn_r _ [17, 18, 19, 1, 20, 21, 22, 23, 24, 25, 26, 27, 28, 29, 30, 31, 32] (by decide +kernel) (by decide +kernel)
set_option maxRecDepth 20000 in
theorem gX2_sequenceAfterPurge_X2_begin : GoodIn wsX2_sequenceAfterPurge (wsV RX2 145 RX2 yX2_begin wsX2_begin) := goodIn_app (goodIn_of _ (by decide +kernel)) ggX2_sequenceAfterPurge_X2_begin
theorem dX2_sequenceAfterPurge_0 : decode cX2_sequenceAfterPurge 0 = .ok (.aload_n 0, 1) := by decide +kernel
theorem dX2_sequenceAfterPurge_1 : decode cX2_sequenceAfterPurge 1 = .ok (.getfield 36, 3) := by decide +kernel
theorem dX2_sequenceAfterPurge_4 : decode cX2_sequenceAfterPurge 4 = .ok (.aload_n 0, 1) := by decide +kernel
theorem dX2_sequenceAfterPurge_5 : decode cX2_sequenceAfterPurge 5 = .ok (.getfield 21, 3) := by decide +kernel
theorem dX2_sequenceAfterPurge_8 : decode cX2_sequenceAfterPurge 8 = .ok (.getfield 172, 3) := by decide +kernel
theorem dX2_sequenceAfterPurge_11 : decode cX2_sequenceAfterPurge 11 = .ok (.if_icmp .ge 5, 3) := by decide +kernel
theorem dX2_sequenceAfterPurge_14 : decode cX2_sequenceAfterPurge 14 = .ok (.iconst 0, 1) := by decide +kernel
theorem dX2_sequenceAfterPurge_15 : decode cX2_sequenceAfterPurge 15 = .ok (.ireturn, 1) := by decide +kernel
theorem dX2_sequenceAfterPurge_16 : decode cX2_sequenceAfterPurge 16 = .ok (.aload_n 0, 1) := by decide +kernel
theorem dX2_sequenceAfterPurge_17 : decode cX2_sequenceAfterPurge 17 = .ok (.invokevirtual 139, 3) := by decide +kernel
theorem dX2_sequenceAfterPurge_20 : decode cX2_sequenceAfterPurge 20 = .ok (.ifCond .eq 11, 3) := by decide +kernel
theorem dX2_sequenceAfterPurge_23 : decode cX2_sequenceAfterPurge 23 = .ok (.aload_n 0, 1) := by decide +kernel
theorem dX2_sequenceAfterPurge_24 : decode cX2_sequenceAfterPurge 24 = .ok (.iconst 3, 1) := by decide +kernel
theorem dX2_sequenceAfterPurge_25 : decode cX2_sequenceAfterPurge 25 = .ok (.invokevirtual 142, 3) := by decide +kernel
theorem dX2_sequenceAfterPurge_28 : decode cX2_sequenceAfterPurge 28 = .ok (.goto 9, 3) := by decide +kernel
theorem dX2_sequenceAfterPurge_31 : decode cX2_sequenceAfterPurge 31 = .ok (.aload_n 0, 1) := by decide +kernel
theorem dX2_sequenceAfterPurge_32 : decode cX2_sequenceAfterPurge 32 = .ok (.iconst 0, 1) := by decide +kernel
theorem dX2_sequenceAfterPurge_33 : decode cX2_sequenceAfterPurge 33 = .ok (.iconst 0, 1) := by decide +kernel
theorem dX2_sequenceAfterPurge_34 : decode cX2_sequenceAfterPurge 34 = .ok (.invokevirtual 145, 3) := by decide +kernel
theorem dX2_sequenceAfterPurge_37 : decode cX2_sequenceAfterPurge 37 = .ok (.ireturn, 1) := by decide +kernel
set_option maxRecDepth 20000 in
theorem ggX2_lockOut_X2_begin : GoodIn wsX2_lockOut wsX2_begin := goodIn_r _ [5, 6, 7, 8, 9, 10, 11, 12, 13, 14, 15, 16, 17, 18, 19, 20, 21] (by decide +kernel) (by decide +kernel)
set_option maxRecDepth 20000 in
theorem gX2_lockOut_X2_begin : GoodIn wsX2_lockOut (wsV RX2 145 RX2 yX2_begin wsX2_begin) := goodIn_app (goodIn_of _ (by decide +kernel)) ggX2_lockOut_X2_begin
theorem dX2_lockOut_0 : decode cX2_lockOut 0 = .ok (.aload_n 0, 1) := by decide +kernel
theorem dX2_lockOut_1 : decode cX2_lockOut 1 = .ok (.bipush 6, 2) := by decide +kernel
theorem dX2_lockOut_3 : decode cX2_lockOut 3 = .ok (.iload_n 1, 1) := by decide +kernel
theorem dX2_lockOut_4 : decode cX2_lockOut 4 = .ok (.invokevirtual 145, 3) := by decide +kernel
theorem dX2_lockOut_7 : decode cX2_lockOut 7 = .ok (.ireturn, 1) := by decide +kernel
theorem dX2_begin_0 : decode cX2_begin 0 = .ok (.aload_n 0, 1) := by decide +kernel
theorem dX2_begin_1 : decode cX2_begin 1 = .ok (.iload_n 1, 1) := by decide +kernel
theorem dX2_begin_2 : decode cX2_begin 2 = .ok (.putfield 29, 3) := by decide +kernel
theorem dX2_begin_5 : decode cX2_begin 5 = .ok (.aload_n 0, 1) := by decide +kernel
theorem dX2_begin_6 : decode cX2_begin 6 = .ok (.iload_n 2, 1) := by decide +kernel
theorem dX2_begin_7 : decode cX2_begin 7 = .ok (.putfield 33, 3) := by decide +kernel
theorem dX2_begin_10 : decode cX2_begin 10 = .ok (.aload_n 0, 1) := by decide +kernel
theorem dX2_begin_11 : decode cX2_begin 11 = .ok (.iconst 0, 1) := by decide +kernel
theorem dX2_begin_12 : decode cX2_begin 12 = .ok (.putfield 36, 3) := by decide +kernel
theorem dX2_begin_15 : decode cX2_begin 15 = .ok (.aload_n 0, 1) := by decide +kernel
theorem dX2_begin_16 : decode cX2_begin 16 = .ok (.iconst 0, 1) := by decide +kernel
theorem dX2_begin_17 : decode cX2_begin 17 = .ok (.putfield 45, 3) := by decide +kernel
theorem dX2_begin_20 : decode cX2_begin 20 = .ok (.iload_n 1, 1) := by decide +kernel
theorem dX2_begin_21 : decode cX2_begin 21 = .ok (.iconst 3, 1) := by decide +kernel
theorem dX2_begin_22 : decode cX2_begin 22 = .ok (.if_icmp .eq 13, 3) := by decide +kernel
theorem dX2_begin_25 : decode cX2_begin 25 = .ok (.iload_n 1, 1) := by decide +kernel
theorem dX2_begin_26 : decode cX2_begin 26 = .ok (.iconst 4, 1) := by decide +kernel
theorem dX2_begin_27 : decode cX2_begin 27 = .ok (.if_icmp .eq 8, 3) := by decide +kernel
theorem dX2_begin_30 : decode cX2_begin 30 = .ok (.aload_n 0, 1) := by decide +kernel
theorem dX2_begin_31 : decode cX2_begin 31 = .ok (.iconst 0, 1) := by decide +kernel
theorem dX2_begin_32 : decode cX2_begin 32 = .ok (.putfield 42, 3) := by decide +kernel
theorem dX2_begin_35 : decode cX2_begin 35 = .ok (.iconst 1, 1) := by decide +kernel
theorem dX2_begin_36 : decode cX2_begin 36 = .ok (.ireturn, 1) := by decide +kernel
set_option maxRecDepth 20000 in
theorem ggX2_countUnlit_X2_hasFlame : GoodIn wsX2_countUnlit wsX2_hasFlame := goodIn_r _ [11, 12, 13, 14, 15, 16, 17, 18, 19, 20, 21, 22, 23, 24, 25, 26] (by decide +kernel) (by decide +kernel)
set_option maxRecDepth 20000 in
theorem gX2_countUnlit_X2_hasFlame : GoodIn wsX2_countUnlit (wsV RX2 139 RX2 yX2_hasFlame wsX2_hasFlame) := goodIn_app (goodIn_of _ (by decide +kernel)) ggX2_countUnlit_X2_hasFlame
theorem dX2_countUnlit_0 : decode cX2_countUnlit 0 = .ok (.aload_n 0, 1) := by decide +kernel
theorem dX2_countUnlit_1 : decode cX2_countUnlit 1 = .ok (.iload_n 1, 1) := by decide +kernel
theorem dX2_countUnlit_2 : decode cX2_countUnlit 2 = .ok (.ifCond .eq 19, 3) := by decide +kernel
theorem dX2_countUnlit_5 : decode cX2_countUnlit 5 = .ok (.aload_n 0, 1) := by decide +kernel
theorem dX2_countUnlit_6 : decode cX2_countUnlit 6 = .ok (.invokevirtual 139, 3) := by decide +kernel
theorem dX2_countUnlit_9 : decode cX2_countUnlit 9 = .ok (.ifCond .ne 12, 3) := by decide +kernel
theorem dX2_countUnlit_12 : decode cX2_countUnlit 12 = .ok (.aload_n 0, 1) := by decide +kernel
theorem dX2_countUnlit_13 : decode cX2_countUnlit 13 = .ok (.getfield 48, 3) := by decide +kernel
theorem dX2_countUnlit_16 : decode cX2_countUnlit 16 = .ok (.iconst 1, 1) := by decide +kernel
theorem dX2_countUnlit_17 : decode cX2_countUnlit 17 = .ok (.iadd, 1) := by decide +kernel
theorem dX2_countUnlit_18 : decode cX2_countUnlit 18 = .ok (.goto 4, 3) := by decide +kernel
theorem dX2_countUnlit_21 : decode cX2_countUnlit 21 = .ok (.iconst 0, 1) := by decide +kernel
theorem dX2_countUnlit_22 : decode cX2_countUnlit 22 = .ok (.putfield 48, 3) := by decide +kernel
theorem dX2_countUnlit_25 : decode cX2_countUnlit 25 = .ok (.aload_n 0, 1) := by decide +kernel
theorem dX2_countUnlit_26 : decode cX2_countUnlit 26 = .ok (.aload_n 0, 1) := by decide +kernel
theorem dX2_countUnlit_27 : decode cX2_countUnlit 27 = .ok (.getfield 51, 3) := by decide +kernel
theorem dX2_countUnlit_30 : decode cX2_countUnlit 30 = .ok (.aload_n 0, 1) := by decide +kernel
theorem dX2_countUnlit_31 : decode cX2_countUnlit 31 = .ok (.getfield 48, 3) := by decide +kernel
theorem dX2_countUnlit_34 : decode cX2_countUnlit 34 = .ok (.invokestatic 115, 3) := by decide +kernel
theorem dX2_countUnlit_37 : decode cX2_countUnlit 37 = .ok (.putfield 51, 3) := by decide +kernel
theorem dX2_countUnlit_40 : decode cX2_countUnlit 40 = .ok (.return_, 1) := by decide +kernel
theorem dX3_init_0 : decode cX3_init 0 = .ok (.aload_n 0, 1) := by decide +kernel
theorem dX3_init_1 : decode cX3_init 1 = .ok (.invokespecial 3, 3) := by decide +kernel
theorem dX3_init_4 : decode cX3_init 4 = .ok (.aload_n 0, 1) := by decide +kernel
theorem dX3_init_5 : decode cX3_init 5 = .ok (.bipush 100, 2) := by decide +kernel
theorem dX3_init_7 : decode cX3_init 7 = .ok (.newarray .int, 2) := by decide +kernel
theorem dX3_init_9 : decode cX3_init 9 = .ok (.putfield 9, 3) := by decide +kernel
theorem dX3_init_12 : decode cX3_init 12 = .ok (.aload_n 0, 1) := by decide +kernel
theorem dX3_init_13 : decode cX3_init 13 = .ok (.bipush 100, 2) := by decide +kernel
theorem dX3_init_15 : decode cX3_init 15 = .ok (.newarray .int, 2) := by decide +kernel
theorem dX3_init_17 : decode cX3_init 17 = .ok (.putfield 15, 3) := by decide +kernel
theorem dX3_init_20 : decode cX3_init 20 = .ok (.aload_n 0, 1) := by decide +kernel
theorem dX3_init_21 : decode cX3_init 21 = .ok (.bipush 100, 2) := by decide +kernel
theorem dX3_init_23 : decode cX3_init 23 = .ok (.newarray .int, 2) := by decide +kernel
theorem dX3_init_25 : decode cX3_init 25 = .ok (.putfield 18, 3) := by decide +kernel
theorem dX3_init_28 : decode cX3_init 28 = .ok (.return_, 1) := by decide +kernel
theorem dX3_add_0 : decode cX3_add 0 = .ok (.aload_n 0, 1) := by decide +kernel
theorem dX3_add_1 : decode cX3_add 1 = .ok (.getfield 21, 3) := by decide +kernel
theorem dX3_add_4 : decode cX3_add 4 = .ok (.ifCond .lt 12, 3) := by decide +kernel
theorem dX3_add_7 : decode cX3_add 7 = .ok (.aload_n 0, 1) := by decide +kernel
theorem dX3_add_8 : decode cX3_add 8 = .ok (.getfield 21, 3) := by decide +kernel
theorem dX3_add_11 : decode cX3_add 11 = .ok (.bipush 100, 2) := by decide +kernel
theorem dX3_add_13 : decode cX3_add 13 = .ok (.if_icmp .lt 8, 3) := by decide +kernel
theorem dX3_add_16 : decode cX3_add 16 = .ok (.aload_n 0, 1) := by decide +kernel
theorem dX3_add_17 : decode cX3_add 17 = .ok (.iconst 0, 1) := by decide +kernel
theorem dX3_add_18 : decode cX3_add 18 = .ok (.putfield 21, 3) := by decide +kernel
theorem dX3_add_21 : decode cX3_add 21 = .ok (.aload_n 0, 1) := by decide +kernel
theorem dX3_add_22 : decode cX3_add 22 = .ok (.getfield 9, 3) := by decide +kernel
theorem dX3_add_25 : decode cX3_add 25 = .ok (.aload_n 0, 1) := by decide +kernel
theorem dX3_add_26 : decode cX3_add 26 = .ok (.getfield 21, 3) := by decide +kernel
theorem dX3_add_29 : decode cX3_add 29 = .ok (.iload_n 1, 1) := by decide +kernel
theorem dX3_add_30 : decode cX3_add 30 = .ok (.iastore, 1) := by decide +kernel
theorem dX3_add_31 : decode cX3_add 31 = .ok (.aload_n 0, 1) := by decide +kernel
theorem dX3_add_32 : decode cX3_add 32 = .ok (.getfield 15, 3) := by decide +kernel
theorem dX3_add_35 : decode cX3_add 35 = .ok (.aload_n 0, 1) := by decide +kernel
theorem dX3_add_36 : decode cX3_add 36 = .ok (.getfield 21, 3) := by decide +kernel
theorem dX3_add_39 : decode cX3_add 39 = .ok (.iload_n 2, 1) := by decide +kernel
theorem dX3_add_40 : decode cX3_add 40 = .ok (.iastore, 1) := by decide +kernel
theorem dX3_add_41 : decode cX3_add 41 = .ok (.aload_n 0, 1) := by decide +kernel
theorem dX3_add_42 : decode cX3_add 42 = .ok (.getfield 18, 3) := by decide +kernel
theorem dX3_add_45 : decode cX3_add 45 = .ok (.aload_n 0, 1) := by decide +kernel
theorem dX3_add_46 : decode cX3_add 46 = .ok (.getfield 21, 3) := by decide +kernel
theorem dX3_add_49 : decode cX3_add 49 = .ok (.iload_n 3, 1) := by decide +kernel
theorem dX3_add_50 : decode cX3_add 50 = .ok (.iastore, 1) := by decide +kernel
theorem dX3_add_51 : decode cX3_add 51 = .ok (.aload_n 0, 1) := by decide +kernel
theorem dX3_add_52 : decode cX3_add 52 = .ok (.dup, 1) := by decide +kernel
theorem dX3_add_53 : decode cX3_add 53 = .ok (.getfield 21, 3) := by decide +kernel
theorem dX3_add_56 : decode cX3_add 56 = .ok (.iconst 1, 1) := by decide +kernel
theorem dX3_add_57 : decode cX3_add 57 = .ok (.iadd, 1) := by decide +kernel
theorem dX3_add_58 : decode cX3_add 58 = .ok (.putfield 21, 3) := by decide +kernel
theorem dX3_add_61 : decode cX3_add 61 = .ok (.aload_n 0, 1) := by decide +kernel
theorem dX3_add_62 : decode cX3_add 62 = .ok (.aload_n 0, 1) := by decide +kernel
theorem dX3_add_63 : decode cX3_add 63 = .ok (.getfield 25, 3) := by decide +kernel
theorem dX3_add_66 : decode cX3_add 66 = .ok (.iconst 1, 1) := by decide +kernel
theorem dX3_add_67 : decode cX3_add 67 = .ok (.iadd, 1) := by decide +kernel
theorem dX3_add_68 : decode cX3_add 68 = .ok (.bipush 100, 2) := by decide +kernel
theorem dX3_add_70 : decode cX3_add 70 = .ok (.invokestatic 28, 3) := by decide +kernel
theorem dX3_add_73 : decode cX3_add 73 = .ok (.putfield 25, 3) := by decide +kernel
theorem dX3_add_76 : decode cX3_add 76 = .ok (.aload_n 0, 1) := by decide +kernel
theorem dX3_add_77 : decode cX3_add 77 = .ok (.dup, 1) := by decide +kernel
theorem dX3_add_78 : decode cX3_add 78 = .ok (.getfield 34, 3) := by decide +kernel
theorem dX3_add_81 : decode cX3_add 81 = .ok (.iconst 1, 1) := by decide +kernel
theorem dX3_add_82 : decode cX3_add 82 = .ok (.iadd, 1) := by decide +kernel
theorem dX3_add_83 : decode cX3_add 83 = .ok (.putfield 34, 3) := by decide +kernel
theorem dX3_add_86 : decode cX3_add 86 = .ok (.return_, 1) := by decide +kernel
theorem dX3_has_0 : decode cX3_has 0 = .ok (.iload_n 1, 1) := by decide +kernel
theorem dX3_has_1 : decode cX3_has 1 = .ok (.ifCond .lt 15, 3) := by decide +kernel
theorem dX3_has_4 : decode cX3_has 4 = .ok (.iload_n 1, 1) := by decide +kernel
theorem dX3_has_5 : decode cX3_has 5 = .ok (.aload_n 0, 1) := by decide +kernel
theorem dX3_has_6 : decode cX3_has 6 = .ok (.getfield 25, 3) := by decide +kernel
theorem dX3_has_9 : decode cX3_has 9 = .ok (.if_icmp .ge 7, 3) := by decide +kernel
theorem dX3_has_12 : decode cX3_has 12 = .ok (.iconst 1, 1) := by decide +kernel
theorem dX3_has_13 : decode cX3_has 13 = .ok (.goto 4, 3) := by decide +kernel
theorem dX3_has_16 : decode cX3_has 16 = .ok (.iconst 0, 1) := by decide +kernel
theorem dX3_has_17 : decode cX3_has 17 = .ok (.ireturn, 1) := by decide +kernel
theorem dX3_read_0 : decode cX3_read 0 = .ok (.aload_n 0, 1) := by decide +kernel
theorem dX3_read_1 : decode cX3_read 1 = .ok (.getfield 21, 3) := by decide +kernel
theorem dX3_read_4 : decode cX3_read 4 = .ok (.iconst 1, 1) := by decide +kernel
theorem dX3_read_5 : decode cX3_read 5 = .ok (.isub, 1) := by decide +kernel
theorem dX3_read_6 : decode cX3_read 6 = .ok (.iload_n 2, 1) := by decide +kernel
theorem dX3_read_7 : decode cX3_read 7 = .ok (.isub, 1) := by decide +kernel
theorem dX3_read_8 : decode cX3_read 8 = .ok (.istore_n 3, 1) := by decide +kernel
theorem dX3_read_9 : decode cX3_read 9 = .ok (.iload_n 3, 1) := by decide +kernel
theorem dX3_read_10 : decode cX3_read 10 = .ok (.ifCond .ge 6, 3) := by decide +kernel
theorem dX3_read_13 : decode cX3_read 13 = .ok (.iinc 3 100, 3) := by decide +kernel
theorem dX3_read_16 : decode cX3_read 16 = .ok (.iload_n 3, 1) := by decide +kernel
theorem dX3_read_17 : decode cX3_read 17 = .ok (.ifCond .lt 15, 3) := by decide +kernel
theorem dX3_read_20 : decode cX3_read 20 = .ok (.iload_n 3, 1) := by decide +kernel
theorem dX3_read_21 : decode cX3_read 21 = .ok (.aload_n 1, 1) := by decide +kernel
theorem dX3_read_22 : decode cX3_read 22 = .ok (.arraylength, 1) := by decide +kernel
theorem dX3_read_23 : decode cX3_read 23 = .ok (.if_icmp .ge 9, 3) := by decide +kernel
theorem dX3_read_26 : decode cX3_read 26 = .ok (.aload_n 1, 1) := by decide +kernel
theorem dX3_read_27 : decode cX3_read 27 = .ok (.iload_n 3, 1) := by decide +kernel
theorem dX3_read_28 : decode cX3_read 28 = .ok (.iaload, 1) := by decide +kernel
theorem dX3_read_29 : decode cX3_read 29 = .ok (.goto 4, 3) := by decide +kernel
theorem dX3_read_32 : decode cX3_read 32 = .ok (.iconst (-1), 1) := by decide +kernel
theorem dX3_read_33 : decode cX3_read 33 = .ok (.ireturn, 1) := by decide +kernel
theorem dX4_init_0 : decode cX4_init 0 = .ok (.aload_n 0, 1) := by decide +kernel
theorem dX4_init_1 : decode cX4_init 1 = .ok (.invokespecial 3, 3) := by decide +kernel
theorem dX4_init_4 : decode cX4_init 4 = .ok (.aload_n 0, 1) := by decide +kernel
theorem dX4_init_5 : decode cX4_init 5 = .ok (.bipush (-100), 2) := by decide +kernel
theorem dX4_init_7 : decode cX4_init 7 = .ok (.putfield 9, 3) := by decide +kernel
theorem dX4_init_10 : decode cX4_init 10 = .ok (.aload_n 0, 1) := by decide +kernel
theorem dX4_init_11 : decode cX4_init 11 = .ok (.bipush (-100), 2) := by decide +kernel
theorem dX4_init_13 : decode cX4_init 13 = .ok (.putfield 15, 3) := by decide +kernel
theorem dX4_init_16 : decode cX4_init 16 = .ok (.aload_n 0, 1) := by decide +kernel
theorem dX4_init_17 : decode cX4_init 17 = .ok (.bipush (-100), 2) := by decide +kernel
theorem dX4_init_19 : decode cX4_init 19 = .ok (.putfield 18, 3) := by decide +kernel
theorem dX4_init_22 : decode cX4_init 22 = .ok (.return_, 1) := by decide +kernel
theorem dX4_add_0 : decode cX4_add 0 = .ok (.aload_n 0, 1) := by decide +kernel
theorem dX4_add_1 : decode cX4_add 1 = .ok (.aload_n 0, 1) := by decide +kernel
theorem dX4_add_2 : decode cX4_add 2 = .ok (.getfield 15, 3) := by decide +kernel
theorem dX4_add_5 : decode cX4_add 5 = .ok (.putfield 18, 3) := by decide +kernel
theorem dX4_add_8 : decode cX4_add 8 = .ok (.aload_n 0, 1) := by decide +kernel
theorem dX4_add_9 : decode cX4_add 9 = .ok (.aload_n 0, 1) := by decide +kernel
theorem dX4_add_10 : decode cX4_add 10 = .ok (.getfield 9, 3) := by decide +kernel
theorem dX4_add_13 : decode cX4_add 13 = .ok (.putfield 15, 3) := by decide +kernel
theorem dX4_add_16 : decode cX4_add 16 = .ok (.aload_n 0, 1) := by decide +kernel
theorem dX4_add_17 : decode cX4_add 17 = .ok (.iload_n 1, 1) := by decide +kernel
theorem dX4_add_18 : decode cX4_add 18 = .ok (.putfield 9, 3) := by decide +kernel
theorem dX4_add_21 : decode cX4_add 21 = .ok (.return_, 1) := by decide +kernel
set_option maxRecDepth 20000 in
theorem ggX4_recent_X4_countOf : GoodIn wsX4_recent wsX4_countOf := goodIn_r _ [7] (by decide +kernel) (by decide +kernel)
set_option maxRecDepth 20000 in
theorem gX4_recent_X4_countOf : GoodIn wsX4_recent (va_wsS RX4 21 yX4_countOf wsX4_countOf) := goodIn_app (goodIn_of _ (by decide +kernel)) ggX4_recent_X4_countOf
theorem dX4_recent_0 : decode cX4_recent 0 = .ok (.aload_n 0, 1) := by decide +kernel
theorem dX4_recent_1 : decode cX4_recent 1 = .ok (.getfield 9, 3) := by decide +kernel
theorem dX4_recent_4 : decode cX4_recent 4 = .ok (.iload_n 1, 1) := by decide +kernel
theorem dX4_recent_5 : decode cX4_recent 5 = .ok (.invokestatic 21, 3) := by decide +kernel
theorem dX4_recent_8 : decode cX4_recent 8 = .ok (.aload_n 0, 1) := by decide +kernel
theorem dX4_recent_9 : decode cX4_recent 9 = .ok (.getfield 15, 3) := by decide +kernel
theorem dX4_recent_12 : decode cX4_recent 12 = .ok (.iload_n 1, 1) := by decide +kernel
theorem dX4_recent_13 : decode cX4_recent 13 = .ok (.invokestatic 21, 3) := by decide +kernel
theorem dX4_recent_16 : decode cX4_recent 16 = .ok (.iadd, 1) := by decide +kernel
theorem dX4_recent_17 : decode cX4_recent 17 = .ok (.aload_n 0, 1) := by decide +kernel
theorem dX4_recent_18 : decode cX4_recent 18 = .ok (.getfield 18, 3) := by decide +kernel
theorem dX4_recent_21 : decode cX4_recent 21 = .ok (.iload_n 1, 1) := by decide +kernel
theorem dX4_recent_22 : decode cX4_recent 22 = .ok (.invokestatic 21, 3) := by decide +kernel
theorem dX4_recent_25 : decode cX4_recent 25 = .ok (.iadd, 1) := by decide +kernel
theorem dX4_recent_26 : decode cX4_recent 26 = .ok (.ireturn, 1) := by decide +kernel
theorem dX4_countOf_0 : decode cX4_countOf 0 = .ok (.iload_n 1, 1) := by decide +kernel
theorem dX4_countOf_1 : decode cX4_countOf 1 = .ok (.iload_n 0, 1) := by decide +kernel
theorem dX4_countOf_2 : decode cX4_countOf 2 = .ok (.isub, 1) := by decide +kernel
theorem dX4_countOf_3 : decode cX4_countOf 3 = .ok (.bipush 100, 2) := by decide +kernel
theorem dX4_countOf_5 : decode cX4_countOf 5 = .ok (.if_icmp .ge 7, 3) := by decide +kernel
theorem dX4_countOf_8 : decode cX4_countOf 8 = .ok (.iconst 1, 1) := by decide +kernel
theorem dX4_countOf_9 : decode cX4_countOf 9 = .ok (.goto 4, 3) := by decide +kernel
theorem dX4_countOf_12 : decode cX4_countOf 12 = .ok (.iconst 0, 1) := by decide +kernel
theorem dX4_countOf_13 : decode cX4_countOf 13 = .ok (.ireturn, 1) := by decide +kernel
theorem dX5_init_0 : decode cX5_init 0 = .ok (.aload_n 0, 1) := by decide +kernel
theorem dX5_init_1 : decode cX5_init 1 = .ok (.invokespecial 1, 3) := by decide +kernel
theorem dX5_init_4 : decode cX5_init 4 = .ok (.aload_n 0, 1) := by decide +kernel
theorem dX5_init_5 : decode cX5_init 5 = .ok (.bipush 50, 2) := by decide +kernel
theorem dX5_init_7 : decode cX5_init 7 = .ok (.putfield 7, 3) := by decide +kernel
theorem dX5_init_10 : decode cX5_init 10 = .ok (.aload_n 0, 1) := by decide +kernel
theorem dX5_init_11 : decode cX5_init 11 = .ok (.bipush 60, 2) := by decide +kernel
theorem dX5_init_13 : decode cX5_init 13 = .ok (.putfield 13, 3) := by decide +kernel
theorem dX5_init_16 : decode cX5_init 16 = .ok (.aload_n 0, 1) := by decide +kernel
theorem dX5_init_17 : decode cX5_init 17 = .ok (.bipush 10, 2) := by decide +kernel
theorem dX5_init_19 : decode cX5_init 19 = .ok (.putfield 16, 3) := by decide +kernel
theorem dX5_init_22 : decode cX5_init 22 = .ok (.aload_n 0, 1) := by decide +kernel
theorem dX5_init_23 : decode cX5_init 23 = .ok (.iconst 5, 1) := by decide +kernel
theorem dX5_init_24 : decode cX5_init 24 = .ok (.putfield 19, 3) := by decide +kernel
theorem dX5_init_27 : decode cX5_init 27 = .ok (.aload_n 0, 1) := by decide +kernel
theorem dX5_init_28 : decode cX5_init 28 = .ok (.bipush 15, 2) := by decide +kernel
theorem dX5_init_30 : decode cX5_init 30 = .ok (.putfield 22, 3) := by decide +kernel
theorem dX5_init_33 : decode cX5_init 33 = .ok (.aload_n 0, 1) := by decide +kernel
theorem dX5_init_34 : decode cX5_init 34 = .ok (.iconst 2, 1) := by decide +kernel
theorem dX5_init_35 : decode cX5_init 35 = .ok (.putfield 25, 3) := by decide +kernel
theorem dX5_init_38 : decode cX5_init 38 = .ok (.aload_n 0, 1) := by decide +kernel
theorem dX5_init_39 : decode cX5_init 39 = .ok (.iconst 3, 1) := by decide +kernel
theorem dX5_init_40 : decode cX5_init 40 = .ok (.putfield 28, 3) := by decide +kernel
theorem dX5_init_43 : decode cX5_init 43 = .ok (.aload_n 0, 1) := by decide +kernel
theorem dX5_init_44 : decode cX5_init 44 = .ok (.bipush 30, 2) := by decide +kernel
theorem dX5_init_46 : decode cX5_init 46 = .ok (.putfield 31, 3) := by decide +kernel
theorem dX5_init_49 : decode cX5_init 49 = .ok (.aload_n 0, 1) := by decide +kernel
theorem dX5_init_50 : decode cX5_init 50 = .ok (.sipush 200, 3) := by decide +kernel
theorem dX5_init_53 : decode cX5_init 53 = .ok (.putfield 34, 3) := by decide +kernel
theorem dX5_init_56 : decode cX5_init 56 = .ok (.aload_n 0, 1) := by decide +kernel
theorem dX5_init_57 : decode cX5_init 57 = .ok (.bipush 20, 2) := by decide +kernel
theorem dX5_init_59 : decode cX5_init 59 = .ok (.putfield 37, 3) := by decide +kernel
theorem dX5_init_62 : decode cX5_init 62 = .ok (.aload_n 0, 1) := by decide +kernel
theorem dX5_init_63 : decode cX5_init 63 = .ok (.bipush 10, 2) := by decide +kernel
theorem dX5_init_65 : decode cX5_init 65 = .ok (.putfield 40, 3) := by decide +kernel
theorem dX5_init_68 : decode cX5_init 68 = .ok (.return_, 1) := by decide +kernel
set_option maxRecDepth 20000 in
theorem ggX6_init_X5_init : GoodIn wsX6_init wsX5_init := goodIn_r _ [25, 26, 2, 3, 27, 28, 29, 30, 31, 32, 33, 34, 35, 36, 37, 72, 73, 74, 75, 76, 77, 78, 79, 80, 81, 82] (by decide +kernel) (by decide +kernel)
set_option maxRecDepth 20000 in
theorem gX6_init_X5_init_n11 : GoodIn wsX6_init (wsX5_init) := ggX6_init_X5_init
set_option maxRecDepth 20000 in
theorem ggX6_init_X2_init : GoodIn wsX6_init wsX2_init := goodIn_r _ [40, 41, 2, 3, 42, 43, 44, 45, 46, 47, 48, 49, 50, 112, 113, 90, 91, 92, 93, 94, 95, 96, 97, 98, 99, 100] (by decide +kernel) (by decide +kernel)
set_option maxRecDepth 20000 in
theorem gX6_init_X2_init : GoodIn wsX6_init (wsX2_init) := ggX6_init_X2_init
set_option maxRecDepth 20000 in
theorem ggX6_init_X3_init : GoodIn wsX6_init wsX3_init := goodIn_r _ [52, 53, 2, 3, 54, 55, 56, 57, 101, 102, 103, 104, 105, 106] (by decide +kernel) (by decide +kernel)
set_option maxRecDepth 20000 in
theorem gX6_init_X3_init_n27 : GoodIn wsX6_init (wsX3_init) := ggX6_init_X3_init
set_option maxRecDepth 20000 in
theorem ggX6_init_X4_init : GoodIn wsX6_init wsX4_init := goodIn_r _ [59, 60, 2, 3, 61, 62, 63, 107, 108, 109] (by decide +kernel) (by decide +kernel)
set_option maxRecDepth 20000 in
theorem gX6_init_X4_init_n34 : GoodIn wsX6_init (wsX4_init) := ggX6_init_X4_init
set_option maxRecDepth 20000 in
theorem ggX6_init_X0_init : GoodIn wsX6_init wsX0_init := goodIn_r _ [66, 67, 2, 3, 68, 9, 10, 69, 70, 71, 39, 40, 41, 42, 43, 44, 45, 46, 47, 48, 49, 50, 90, 91, 92, 93, 94, 95, 96, 97, 98, 99, 100, 110, 111, 112, 113] (by decide +kernel) (by decide +kernel)
set_option maxRecDepth 20000 in
theorem gX6_init_X0_init : GoodIn wsX6_init (wsX0_init) := ggX6_init_X0_init
theorem dX6_init_0 : decode cX6_init 0 = .ok (.aload_n 0, 1) := by decide +kernel
theorem dX6_init_1 : decode cX6_init 1 = .ok (.invokespecial 3, 3) := by decide +kernel
theorem dX6_init_4 : decode cX6_init 4 = .ok (.aload_n 0, 1) := by decide +kernel
theorem dX6_init_5 : decode cX6_init 5 = .ok (.new 9, 3) := by decide +kernel
theorem dX6_init_8 : decode cX6_init 8 = .ok (.dup, 1) := by decide +kernel
theorem dX6_init_9 : decode cX6_init 9 = .ok (.invokespecial 11, 3) := by decide +kernel
theorem dX6_init_12 : decode cX6_init 12 = .ok (.putfield 12, 3) := by decide +kernel
theorem dX6_init_15 : decode cX6_init 15 = .ok (.aload_n 0, 1) := by decide +kernel
theorem dX6_init_16 : decode cX6_init 16 = .ok (.new 16, 3) := by decide +kernel
theorem dX6_init_19 : decode cX6_init 19 = .ok (.dup, 1) := by decide +kernel
theorem dX6_init_20 : decode cX6_init 20 = .ok (.aload_n 0, 1) := by decide +kernel
theorem dX6_init_21 : decode cX6_init 21 = .ok (.getfield 12, 3) := by decide +kernel
theorem dX6_init_24 : decode cX6_init 24 = .ok (.invokespecial 18, 3) := by decide +kernel
theorem dX6_init_27 : decode cX6_init 27 = .ok (.putfield 21, 3) := by decide +kernel
theorem dX6_init_30 : decode cX6_init 30 = .ok (.aload_n 0, 1) := by decide +kernel
theorem dX6_init_31 : decode cX6_init 31 = .ok (.new 25, 3) := by decide +kernel
theorem dX6_init_34 : decode cX6_init 34 = .ok (.dup, 1) := by decide +kernel
theorem dX6_init_35 : decode cX6_init 35 = .ok (.invokespecial 27, 3) := by decide +kernel
theorem dX6_init_38 : decode cX6_init 38 = .ok (.putfield 28, 3) := by decide +kernel
theorem dX6_init_41 : decode cX6_init 41 = .ok (.aload_n 0, 1) := by decide +kernel
theorem dX6_init_42 : decode cX6_init 42 = .ok (.new 32, 3) := by decide +kernel
theorem dX6_init_45 : decode cX6_init 45 = .ok (.dup, 1) := by decide +kernel
theorem dX6_init_46 : decode cX6_init 46 = .ok (.invokespecial 34, 3) := by decide +kernel
theorem dX6_init_49 : decode cX6_init 49 = .ok (.putfield 35, 3) := by decide +kernel
theorem dX6_init_52 : decode cX6_init 52 = .ok (.aload_n 0, 1) := by decide +kernel
theorem dX6_init_53 : decode cX6_init 53 = .ok (.new 39, 3) := by decide +kernel
theorem dX6_init_56 : decode cX6_init 56 = .ok (.dup, 1) := by decide +kernel
theorem dX6_init_57 : decode cX6_init 57 = .ok (.aload_n 0, 1) := by decide +kernel
theorem dX6_init_58 : decode cX6_init 58 = .ok (.getfield 12, 3) := by decide +kernel
theorem dX6_init_61 : decode cX6_init 61 = .ok (.new 39, 3) := by decide +kernel
theorem dX6_init_64 : decode cX6_init 64 = .ok (.dup, 1) := by decide +kernel
theorem dX6_init_65 : decode cX6_init 65 = .ok (.aload_n 0, 1) := by decide +kernel
theorem dX6_init_66 : decode cX6_init 66 = .ok (.getfield 12, 3) := by decide +kernel
theorem dX6_init_69 : decode cX6_init 69 = .ok (.new 39, 3) := by decide +kernel
theorem dX6_init_72 : decode cX6_init 72 = .ok (.dup, 1) := by decide +kernel
theorem dX6_init_73 : decode cX6_init 73 = .ok (.aload_n 0, 1) := by decide +kernel
theorem dX6_init_74 : decode cX6_init 74 = .ok (.getfield 12, 3) := by decide +kernel
theorem dX6_init_77 : decode cX6_init 77 = .ok (.aconst_null, 1) := by decide +kernel
theorem dX6_init_78 : decode cX6_init 78 = .ok (.invokespecial 41, 3) := by decide +kernel
theorem dX6_init_81 : decode cX6_init 81 = .ok (.invokespecial 41, 3) := by decide +kernel
theorem dX6_init_84 : decode cX6_init 84 = .ok (.invokespecial 41, 3) := by decide +kernel
theorem dX6_init_87 : decode cX6_init 87 = .ok (.putfield 44, 3) := by decide +kernel
theorem dX6_init_90 : decode cX6_init 90 = .ok (.return_, 1) := by decide +kernel
set_option maxRecDepth 20000 in
theorem ggX6_signal_X6_isOn : GoodIn wsX6_signal wsX6_isOn := goodIn_r _ [7] (by decide +kernel) (by decide +kernel)
set_option maxRecDepth 20000 in
theorem gX6_signal_X6_isOn : GoodIn wsX6_signal (va_wsS RX6 59 yX6_isOn wsX6_isOn) := goodIn_app (goodIn_of _ (by decide +kernel)) ggX6_signal_X6_isOn
theorem dX6_signal_0 : decode cX6_signal 0 = .ok (.iload_n 1, 1) := by decide +kernel
theorem dX6_signal_1 : decode cX6_signal 1 = .ok (.ifCond .lt 9, 3) := by decide +kernel
theorem dX6_signal_4 : decode cX6_signal 4 = .ok (.iload_n 1, 1) := by decide +kernel
theorem dX6_signal_5 : decode cX6_signal 5 = .ok (.bipush 6, 2) := by decide +kernel
theorem dX6_signal_7 : decode cX6_signal 7 = .ok (.if_icmp .lt 13, 3) := by decide +kernel
theorem dX6_signal_10 : decode cX6_signal 10 = .ok (.new 48, 3) := by decide +kernel
theorem dX6_signal_13 : decode cX6_signal 13 = .ok (.dup, 1) := by decide +kernel
theorem dX6_signal_14 : decode cX6_signal 14 = .ok (.ldc 50, 2) := by decide +kernel
theorem dX6_signal_16 : decode cX6_signal 16 = .ok (.invokespecial 52, 3) := by decide +kernel
theorem dX6_signal_19 : decode cX6_signal 19 = .ok (.athrow, 1) := by decide +kernel
theorem dX6_signal_20 : decode cX6_signal 20 = .ok (.iconst 1, 1) := by decide +kernel
theorem dX6_signal_21 : decode cX6_signal 21 = .ok (.iload_n 1, 1) := by decide +kernel
theorem dX6_signal_22 : decode cX6_signal 22 = .ok (.ishl, 1) := by decide +kernel
theorem dX6_signal_23 : decode cX6_signal 23 = .ok (.istore_n 3, 1) := by decide +kernel
theorem dX6_signal_24 : decode cX6_signal 24 = .ok (.aload_n 0, 1) := by decide +kernel
theorem dX6_signal_25 : decode cX6_signal 25 = .ok (.getfield 55, 3) := by decide +kernel
theorem dX6_signal_28 : decode cX6_signal 28 = .ok (.iload_n 3, 1) := by decide +kernel
theorem dX6_signal_29 : decode cX6_signal 29 = .ok (.invokestatic 59, 3) := by decide +kernel
theorem dX6_signal_32 : decode cX6_signal 32 = .ok (.istore 4, 2) := by decide +kernel
theorem dX6_signal_34 : decode cX6_signal 34 = .ok (.aload_n 0, 1) := by decide +kernel
theorem dX6_signal_35 : decode cX6_signal 35 = .ok (.iload_n 2, 1) := by decide +kernel
theorem dX6_signal_36 : decode cX6_signal 36 = .ok (.ifCond .eq 12, 3) := by decide +kernel
theorem dX6_signal_39 : decode cX6_signal 39 = .ok (.aload_n 0, 1) := by decide +kernel
theorem dX6_signal_40 : decode cX6_signal 40 = .ok (.getfield 55, 3) := by decide +kernel
theorem dX6_signal_43 : decode cX6_signal 43 = .ok (.iload_n 3, 1) := by decide +kernel
theorem dX6_signal_44 : decode cX6_signal 44 = .ok (.ior, 1) := by decide +kernel
theorem dX6_signal_45 : decode cX6_signal 45 = .ok (.goto 11, 3) := by decide +kernel
theorem dX6_signal_48 : decode cX6_signal 48 = .ok (.aload_n 0, 1) := by decide +kernel
theorem dX6_signal_49 : decode cX6_signal 49 = .ok (.getfield 55, 3) := by decide +kernel
theorem dX6_signal_52 : decode cX6_signal 52 = .ok (.iload_n 3, 1) := by decide +kernel
theorem dX6_signal_53 : decode cX6_signal 53 = .ok (.iconst (-1), 1) := by decide +kernel
theorem dX6_signal_54 : decode cX6_signal 54 = .ok (.ixor, 1) := by decide +kernel
theorem dX6_signal_55 : decode cX6_signal 55 = .ok (.iand, 1) := by decide +kernel
theorem dX6_signal_56 : decode cX6_signal 56 = .ok (.putfield 55, 3) := by decide +kernel
theorem dX6_signal_59 : decode cX6_signal 59 = .ok (.iload 4, 2) := by decide +kernel
theorem dX6_signal_61 : decode cX6_signal 61 = .ok (.ireturn, 1) := by decide +kernel
set_option maxRecDepth 20000 in
theorem ggX6_setRate_X6_isOutside : GoodIn wsX6_setRate wsX6_isOutside := goodIn_r _ [7] (by decide +kernel) (by decide +kernel)
set_option maxRecDepth 20000 in
theorem gX6_setRate_X6_isOutside : GoodIn wsX6_setRate (va_wsS RX6 63 yX6_isOutside wsX6_isOutside) := goodIn_app (goodIn_of _ (by decide +kernel)) ggX6_setRate_X6_isOutside
theorem dX6_setRate_0 : decode cX6_setRate 0 = .ok (.iload_n 1, 1) := by decide +kernel
theorem dX6_setRate_1 : decode cX6_setRate 1 = .ok (.bipush 20, 2) := by decide +kernel
theorem dX6_setRate_3 : decode cX6_setRate 3 = .ok (.bipush 100, 2) := by decide +kernel
theorem dX6_setRate_5 : decode cX6_setRate 5 = .ok (.invokestatic 63, 3) := by decide +kernel
theorem dX6_setRate_8 : decode cX6_setRate 8 = .ok (.ifCond .eq 13, 3) := by decide +kernel
theorem dX6_setRate_11 : decode cX6_setRate 11 = .ok (.new 67, 3) := by decide +kernel
theorem dX6_setRate_14 : decode cX6_setRate 14 = .ok (.dup, 1) := by decide +kernel
theorem dX6_setRate_15 : decode cX6_setRate 15 = .ok (.ldc 69, 2) := by decide +kernel
theorem dX6_setRate_17 : decode cX6_setRate 17 = .ok (.invokespecial 71, 3) := by decide +kernel
theorem dX6_setRate_20 : decode cX6_setRate 20 = .ok (.athrow, 1) := by decide +kernel
theorem dX6_setRate_21 : decode cX6_setRate 21 = .ok (.aload_n 0, 1) := by decide +kernel
theorem dX6_setRate_22 : decode cX6_setRate 22 = .ok (.getfield 12, 3) := by decide +kernel
theorem dX6_setRate_25 : decode cX6_setRate 25 = .ok (.getfield 72, 3) := by decide +kernel
theorem dX6_setRate_28 : decode cX6_setRate 28 = .ok (.istore_n 2, 1) := by decide +kernel
theorem dX6_setRate_29 : decode cX6_setRate 29 = .ok (.aload_n 0, 1) := by decide +kernel
theorem dX6_setRate_30 : decode cX6_setRate 30 = .ok (.getfield 12, 3) := by decide +kernel
theorem dX6_setRate_33 : decode cX6_setRate 33 = .ok (.iload_n 1, 1) := by decide +kernel
theorem dX6_setRate_34 : decode cX6_setRate 34 = .ok (.putfield 72, 3) := by decide +kernel
theorem dX6_setRate_37 : decode cX6_setRate 37 = .ok (.iload_n 2, 1) := by decide +kernel
theorem dX6_setRate_38 : decode cX6_setRate 38 = .ok (.ireturn, 1) := by decide +kernel
set_option maxRecDepth 20000 in
theorem ggX6_setTimes_X6_isOutside : GoodIn wsX6_setTimes wsX6_isOutside := goodIn_r _ [7] (by decide +kernel) (by decide +kernel)
set_option maxRecDepth 20000 in
theorem gX6_setTimes_X6_isOutside : GoodIn wsX6_setTimes (va_wsS RX6 63 yX6_isOutside wsX6_isOutside) := goodIn_app (goodIn_of _ (by decide +kernel)) ggX6_setTimes_X6_isOutside
set_option maxRecDepth 20000 in
theorem ggX6_setTimes_X6_refuseUnlessOff : GoodIn wsX6_setTimes wsX6_refuseUnlessOff := goodIn_ca (goodIn_r _ [11, 12, 13, 14, 15, 16, 17, 18, 19, 20, 21, 33, 34, 35, 36, 37, 38, 39, 40, 41, 42, 43] (by decide +kernel) (by decide +kernel)) (goodIn_sub (fun _ h => List.mem_cons_of_mem _ (List.mem_append_right _ h)) (by decide +kernel))
set_option maxRecDepth 20000 in
theorem gX6_setTimes_X6_refuseUnlessOff : GoodIn wsX6_setTimes (wsV RX6 77 RX6 yX6_refuseUnlessOff wsX6_refuseUnlessOff) := goodIn_app (goodIn_of _ (by decide +kernel)) ggX6_setTimes_X6_refuseUnlessOff
theorem dX6_setTimes_0 : decode cX6_setTimes 0 = .ok (.iload_n 1, 1) := by decide +kernel
theorem dX6_setTimes_1 : decode cX6_setTimes 1 = .ok (.iconst 1, 1) := by decide +kernel
theorem dX6_setTimes_2 : decode cX6_setTimes 2 = .ok (.sipush 200, 3) := by decide +kernel
theorem dX6_setTimes_5 : decode cX6_setTimes 5 = .ok (.invokestatic 63, 3) := by decide +kernel
theorem dX6_setTimes_8 : decode cX6_setTimes 8 = .ok (.ifCond .ne 34, 3) := by decide +kernel
theorem dX6_setTimes_11 : decode cX6_setTimes 11 = .ok (.iload_n 2, 1) := by decide +kernel
theorem dX6_setTimes_12 : decode cX6_setTimes 12 = .ok (.iconst 1, 1) := by decide +kernel
theorem dX6_setTimes_13 : decode cX6_setTimes 13 = .ok (.bipush 30, 2) := by decide +kernel
theorem dX6_setTimes_15 : decode cX6_setTimes 15 = .ok (.invokestatic 63, 3) := by decide +kernel
theorem dX6_setTimes_18 : decode cX6_setTimes 18 = .ok (.ifCond .ne 24, 3) := by decide +kernel
theorem dX6_setTimes_21 : decode cX6_setTimes 21 = .ok (.iload_n 3, 1) := by decide +kernel
theorem dX6_setTimes_22 : decode cX6_setTimes 22 = .ok (.iconst 1, 1) := by decide +kernel
theorem dX6_setTimes_23 : decode cX6_setTimes 23 = .ok (.bipush 30, 2) := by decide +kernel
theorem dX6_setTimes_25 : decode cX6_setTimes 25 = .ok (.invokestatic 63, 3) := by decide +kernel
theorem dX6_setTimes_28 : decode cX6_setTimes 28 = .ok (.ifCond .ne 14, 3) := by decide +kernel
theorem dX6_setTimes_31 : decode cX6_setTimes 31 = .ok (.iload 4, 2) := by decide +kernel
theorem dX6_setTimes_33 : decode cX6_setTimes 33 = .ok (.iconst 1, 1) := by decide +kernel
theorem dX6_setTimes_34 : decode cX6_setTimes 34 = .ok (.bipush 60, 2) := by decide +kernel
theorem dX6_setTimes_36 : decode cX6_setTimes 36 = .ok (.invokestatic 63, 3) := by decide +kernel
theorem dX6_setTimes_39 : decode cX6_setTimes 39 = .ok (.ifCond .eq 13, 3) := by decide +kernel
theorem dX6_setTimes_42 : decode cX6_setTimes 42 = .ok (.new 67, 3) := by decide +kernel
theorem dX6_setTimes_45 : decode cX6_setTimes 45 = .ok (.dup, 1) := by decide +kernel
theorem dX6_setTimes_46 : decode cX6_setTimes 46 = .ok (.ldc 75, 2) := by decide +kernel
theorem dX6_setTimes_48 : decode cX6_setTimes 48 = .ok (.invokespecial 71, 3) := by decide +kernel
theorem dX6_setTimes_51 : decode cX6_setTimes 51 = .ok (.athrow, 1) := by decide +kernel
theorem dX6_setTimes_52 : decode cX6_setTimes 52 = .ok (.aload_n 0, 1) := by decide +kernel
theorem dX6_setTimes_53 : decode cX6_setTimes 53 = .ok (.invokevirtual 77, 3) := by decide +kernel
theorem dX6_setTimes_56 : decode cX6_setTimes 56 = .ok (.aload_n 0, 1) := by decide +kernel
theorem dX6_setTimes_57 : decode cX6_setTimes 57 = .ok (.getfield 12, 3) := by decide +kernel
theorem dX6_setTimes_60 : decode cX6_setTimes 60 = .ok (.iload_n 1, 1) := by decide +kernel
theorem dX6_setTimes_61 : decode cX6_setTimes 61 = .ok (.putfield 80, 3) := by decide +kernel
theorem dX6_setTimes_64 : decode cX6_setTimes 64 = .ok (.aload_n 0, 1) := by decide +kernel
theorem dX6_setTimes_65 : decode cX6_setTimes 65 = .ok (.getfield 12, 3) := by decide +kernel
theorem dX6_setTimes_68 : decode cX6_setTimes 68 = .ok (.iload_n 2, 1) := by decide +kernel
theorem dX6_setTimes_69 : decode cX6_setTimes 69 = .ok (.putfield 83, 3) := by decide +kernel
theorem dX6_setTimes_72 : decode cX6_setTimes 72 = .ok (.aload_n 0, 1) := by decide +kernel
theorem dX6_setTimes_73 : decode cX6_setTimes 73 = .ok (.getfield 12, 3) := by decide +kernel
theorem dX6_setTimes_76 : decode cX6_setTimes 76 = .ok (.iload_n 3, 1) := by decide +kernel
theorem dX6_setTimes_77 : decode cX6_setTimes 77 = .ok (.putfield 86, 3) := by decide +kernel
theorem dX6_setTimes_80 : decode cX6_setTimes 80 = .ok (.aload_n 0, 1) := by decide +kernel
theorem dX6_setTimes_81 : decode cX6_setTimes 81 = .ok (.getfield 12, 3) := by decide +kernel
theorem dX6_setTimes_84 : decode cX6_setTimes 84 = .ok (.iload 4, 2) := by decide +kernel
theorem dX6_setTimes_86 : decode cX6_setTimes 86 = .ok (.putfield 89, 3) := by decide +kernel
theorem dX6_setTimes_89 : decode cX6_setTimes 89 = .ok (.return_, 1) := by decide +kernel
set_option maxRecDepth 20000 in
theorem ggX6_setEyes_X6_isOutside : GoodIn wsX6_setEyes wsX6_isOutside := goodIn_r _ [7] (by decide +kernel) (by decide +kernel)
set_option maxRecDepth 20000 in
theorem gX6_setEyes_X6_isOutside : GoodIn wsX6_setEyes (va_wsS RX6 63 yX6_isOutside wsX6_isOutside) := goodIn_app (goodIn_of _ (by decide +kernel)) ggX6_setEyes_X6_isOutside
set_option maxRecDepth 20000 in
theorem ggX6_setEyes_X6_refuseUnlessOff : GoodIn wsX6_setEyes wsX6_refuseUnlessOff := goodIn_ca (goodIn_r _ [11, 12, 13, 14, 15, 16, 17, 18, 19, 20, 21, 33, 34, 35, 36, 37, 38, 39, 40, 41, 42, 43] (by decide +kernel) (by decide +kernel)) (goodIn_sub (fun _ h => List.mem_cons_of_mem _ (List.mem_append_right _ h)) (by decide +kernel))
set_option maxRecDepth 20000 in
theorem gX6_setEyes_X6_refuseUnlessOff : GoodIn wsX6_setEyes (wsV RX6 77 RX6 yX6_refuseUnlessOff wsX6_refuseUnlessOff) := goodIn_app (goodIn_of _ (by decide +kernel)) ggX6_setEyes_X6_refuseUnlessOff
theorem dX6_setEyes_0 : decode cX6_setEyes 0 = .ok (.iload_n 1, 1) := by decide +kernel
theorem dX6_setEyes_1 : decode cX6_setEyes 1 = .ok (.iconst 1, 1) := by decide +kernel
theorem dX6_setEyes_2 : decode cX6_setEyes 2 = .ok (.iconst 5, 1) := by decide +kernel
theorem dX6_setEyes_3 : decode cX6_setEyes 3 = .ok (.invokestatic 63, 3) := by decide +kernel
theorem dX6_setEyes_6 : decode cX6_setEyes 6 = .ok (.ifCond .ne 22, 3) := by decide +kernel
theorem dX6_setEyes_9 : decode cX6_setEyes 9 = .ok (.iload_n 2, 1) := by decide +kernel
theorem dX6_setEyes_10 : decode cX6_setEyes 10 = .ok (.iconst 1, 1) := by decide +kernel
theorem dX6_setEyes_11 : decode cX6_setEyes 11 = .ok (.iconst 5, 1) := by decide +kernel
theorem dX6_setEyes_12 : decode cX6_setEyes 12 = .ok (.invokestatic 63, 3) := by decide +kernel
theorem dX6_setEyes_15 : decode cX6_setEyes 15 = .ok (.ifCond .ne 13, 3) := by decide +kernel
theorem dX6_setEyes_18 : decode cX6_setEyes 18 = .ok (.iload_n 3, 1) := by decide +kernel
theorem dX6_setEyes_19 : decode cX6_setEyes 19 = .ok (.iconst 5, 1) := by decide +kernel
theorem dX6_setEyes_20 : decode cX6_setEyes 20 = .ok (.bipush 100, 2) := by decide +kernel
theorem dX6_setEyes_22 : decode cX6_setEyes 22 = .ok (.invokestatic 63, 3) := by decide +kernel
theorem dX6_setEyes_25 : decode cX6_setEyes 25 = .ok (.ifCond .eq 13, 3) := by decide +kernel
theorem dX6_setEyes_28 : decode cX6_setEyes 28 = .ok (.new 67, 3) := by decide +kernel
theorem dX6_setEyes_31 : decode cX6_setEyes 31 = .ok (.dup, 1) := by decide +kernel
theorem dX6_setEyes_32 : decode cX6_setEyes 32 = .ok (.ldc 92, 2) := by decide +kernel
theorem dX6_setEyes_34 : decode cX6_setEyes 34 = .ok (.invokespecial 71, 3) := by decide +kernel
theorem dX6_setEyes_37 : decode cX6_setEyes 37 = .ok (.athrow, 1) := by decide +kernel
theorem dX6_setEyes_38 : decode cX6_setEyes 38 = .ok (.aload_n 0, 1) := by decide +kernel
theorem dX6_setEyes_39 : decode cX6_setEyes 39 = .ok (.invokevirtual 77, 3) := by decide +kernel
theorem dX6_setEyes_42 : decode cX6_setEyes 42 = .ok (.aload_n 0, 1) := by decide +kernel
theorem dX6_setEyes_43 : decode cX6_setEyes 43 = .ok (.getfield 12, 3) := by decide +kernel
theorem dX6_setEyes_46 : decode cX6_setEyes 46 = .ok (.iload_n 1, 1) := by decide +kernel
theorem dX6_setEyes_47 : decode cX6_setEyes 47 = .ok (.putfield 94, 3) := by decide +kernel
theorem dX6_setEyes_50 : decode cX6_setEyes 50 = .ok (.aload_n 0, 1) := by decide +kernel
theorem dX6_setEyes_51 : decode cX6_setEyes 51 = .ok (.getfield 12, 3) := by decide +kernel
theorem dX6_setEyes_54 : decode cX6_setEyes 54 = .ok (.iload_n 2, 1) := by decide +kernel
theorem dX6_setEyes_55 : decode cX6_setEyes 55 = .ok (.putfield 97, 3) := by decide +kernel
theorem dX6_setEyes_58 : decode cX6_setEyes 58 = .ok (.aload_n 0, 1) := by decide +kernel
theorem dX6_setEyes_59 : decode cX6_setEyes 59 = .ok (.getfield 12, 3) := by decide +kernel
theorem dX6_setEyes_62 : decode cX6_setEyes 62 = .ok (.iload_n 3, 1) := by decide +kernel
theorem dX6_setEyes_63 : decode cX6_setEyes 63 = .ok (.putfield 100, 3) := by decide +kernel
theorem dX6_setEyes_66 : decode cX6_setEyes 66 = .ok (.return_, 1) := by decide +kernel
set_option maxRecDepth 20000 in
theorem ggX6_setFurnace_X6_isOutside : GoodIn wsX6_setFurnace wsX6_isOutside := goodIn_r _ [7] (by decide +kernel) (by decide +kernel)
set_option maxRecDepth 20000 in
theorem gX6_setFurnace_X6_isOutside : GoodIn wsX6_setFurnace (va_wsS RX6 63 yX6_isOutside wsX6_isOutside) := goodIn_app (goodIn_of _ (by decide +kernel)) ggX6_setFurnace_X6_isOutside
set_option maxRecDepth 20000 in
theorem ggX6_setFurnace_X6_refuseUnlessOff : GoodIn wsX6_setFurnace wsX6_refuseUnlessOff := goodIn_ca (goodIn_r _ [11, 12, 13, 14, 15, 16, 17, 18, 19, 20, 21, 33, 34, 35, 36, 37, 38, 39, 40, 41, 42, 43] (by decide +kernel) (by decide +kernel)) (goodIn_sub (fun _ h => List.mem_cons_of_mem _ (List.mem_append_right _ h)) (by decide +kernel))
set_option maxRecDepth 20000 in
theorem gX6_setFurnace_X6_refuseUnlessOff : GoodIn wsX6_setFurnace (wsV RX6 77 RX6 yX6_refuseUnlessOff wsX6_refuseUnlessOff) := goodIn_app (goodIn_of _ (by decide +kernel)) ggX6_setFurnace_X6_refuseUnlessOff
theorem dX6_setFurnace_0 : decode cX6_setFurnace 0 = .ok (.iload_n 1, 1) := by decide +kernel
theorem dX6_setFurnace_1 : decode cX6_setFurnace 1 = .ok (.iconst 1, 1) := by decide +kernel
theorem dX6_setFurnace_2 : decode cX6_setFurnace 2 = .ok (.sipush 500, 3) := by decide +kernel
theorem dX6_setFurnace_5 : decode cX6_setFurnace 5 = .ok (.invokestatic 63, 3) := by decide +kernel
theorem dX6_setFurnace_8 : decode cX6_setFurnace 8 = .ok (.ifCond .ne 23, 3) := by decide +kernel
theorem dX6_setFurnace_11 : decode cX6_setFurnace 11 = .ok (.iload_n 2, 1) := by decide +kernel
theorem dX6_setFurnace_12 : decode cX6_setFurnace 12 = .ok (.iconst 1, 1) := by decide +kernel
theorem dX6_setFurnace_13 : decode cX6_setFurnace 13 = .ok (.bipush 50, 2) := by decide +kernel
theorem dX6_setFurnace_15 : decode cX6_setFurnace 15 = .ok (.invokestatic 63, 3) := by decide +kernel
theorem dX6_setFurnace_18 : decode cX6_setFurnace 18 = .ok (.ifCond .ne 13, 3) := by decide +kernel
theorem dX6_setFurnace_21 : decode cX6_setFurnace 21 = .ok (.iload_n 3, 1) := by decide +kernel
theorem dX6_setFurnace_22 : decode cX6_setFurnace 22 = .ok (.iconst 1, 1) := by decide +kernel
theorem dX6_setFurnace_23 : decode cX6_setFurnace 23 = .ok (.bipush 50, 2) := by decide +kernel
theorem dX6_setFurnace_25 : decode cX6_setFurnace 25 = .ok (.invokestatic 63, 3) := by decide +kernel
theorem dX6_setFurnace_28 : decode cX6_setFurnace 28 = .ok (.ifCond .eq 13, 3) := by decide +kernel
theorem dX6_setFurnace_31 : decode cX6_setFurnace 31 = .ok (.new 67, 3) := by decide +kernel
theorem dX6_setFurnace_34 : decode cX6_setFurnace 34 = .ok (.dup, 1) := by decide +kernel
theorem dX6_setFurnace_35 : decode cX6_setFurnace 35 = .ok (.ldc 103, 2) := by decide +kernel
theorem dX6_setFurnace_37 : decode cX6_setFurnace 37 = .ok (.invokespecial 71, 3) := by decide +kernel
theorem dX6_setFurnace_40 : decode cX6_setFurnace 40 = .ok (.athrow, 1) := by decide +kernel
theorem dX6_setFurnace_41 : decode cX6_setFurnace 41 = .ok (.aload_n 0, 1) := by decide +kernel
theorem dX6_setFurnace_42 : decode cX6_setFurnace 42 = .ok (.invokevirtual 77, 3) := by decide +kernel
theorem dX6_setFurnace_45 : decode cX6_setFurnace 45 = .ok (.aload_n 0, 1) := by decide +kernel
theorem dX6_setFurnace_46 : decode cX6_setFurnace 46 = .ok (.getfield 12, 3) := by decide +kernel
theorem dX6_setFurnace_49 : decode cX6_setFurnace 49 = .ok (.iload_n 1, 1) := by decide +kernel
theorem dX6_setFurnace_50 : decode cX6_setFurnace 50 = .ok (.putfield 105, 3) := by decide +kernel
theorem dX6_setFurnace_53 : decode cX6_setFurnace 53 = .ok (.aload_n 0, 1) := by decide +kernel
theorem dX6_setFurnace_54 : decode cX6_setFurnace 54 = .ok (.getfield 12, 3) := by decide +kernel
theorem dX6_setFurnace_57 : decode cX6_setFurnace 57 = .ok (.iload_n 2, 1) := by decide +kernel
theorem dX6_setFurnace_58 : decode cX6_setFurnace 58 = .ok (.putfield 108, 3) := by decide +kernel
theorem dX6_setFurnace_61 : decode cX6_setFurnace 61 = .ok (.aload_n 0, 1) := by decide +kernel
theorem dX6_setFurnace_62 : decode cX6_setFurnace 62 = .ok (.getfield 12, 3) := by decide +kernel
theorem dX6_setFurnace_65 : decode cX6_setFurnace 65 = .ok (.iload_n 3, 1) := by decide +kernel
theorem dX6_setFurnace_66 : decode cX6_setFurnace 66 = .ok (.putfield 111, 3) := by decide +kernel
theorem dX6_setFurnace_69 : decode cX6_setFurnace 69 = .ok (.return_, 1) := by decide +kernel
set_option maxRecDepth 20000 in
theorem ggX6_poll_X6_isOutside : GoodIn wsX6_poll wsX6_isOutside := goodIn_r _ [9] (by decide +kernel) (by decide +kernel)
set_option maxRecDepth 20000 in
theorem gX6_poll_X6_isOutside : GoodIn wsX6_poll (va_wsS RX6 63 yX6_isOutside wsX6_isOutside) := goodIn_app (goodIn_of _ (by decide +kernel)) ggX6_poll_X6_isOutside
set_option maxRecDepth 20000 in
theorem ggX6_poll_X2_tick : GoodIn wsX6_poll wsX2_tick := goodIn_r _ [14, 15, 16, 17, 18, 19, 20, 13, 21, 22, 23, 24, 25, 26, 27, 8, 28, 29, 30, 31, 32, 33, 34, 35, 36, 37, 38, 39, 40, 41, 42, 43, 44, 45, 46, 47, 48, 49, 50, 51, 52, 53, 54, 55, 56, 57, 58, 59, 60, 61, 62, 63, 64, 65, 66, 67, 68, 69, 70, 71, 72, 73, 74, 75, 76, 77, 78, 79, 80, 81, 82, 83, 84, 85, 86, 87, 88, 89, 90, 91, 92, 93, 94, 95, 96, 97, 98, 99, 100, 101, 102, 103, 104, 105, 106, 107, 108, 109, 110, 111, 112, 113, 114, 115, 116, 117, 118, 119, 120, 145, 146, 147, 148, 149, 150, 151, 152, 153, 154, 155, 156, 157, 158, 159, 160, 161, 162, 163, 164, 165, 166, 167, 168] (by decide +kernel) (by decide +kernel)
set_option maxRecDepth 20000 in
theorem gX6_poll_X2_tick : GoodIn wsX6_poll (wsV RX6 119 RX2 yX2_tick wsX2_tick) := goodIn_app (goodIn_of _ (by decide +kernel)) ggX6_poll_X2_tick
set_option maxRecDepth 20000 in
theorem ggX6_poll_X6_recordChange : GoodIn wsX6_poll wsX6_recordChange := goodIn_r _ [124, 125, 3, 4, 126, 127, 128, 129, 130, 131, 132, 133, 134, 135, 136, 60, 53, 61, 137, 138, 139, 140, 141, 142, 143, 144, 145, 146, 147, 148, 149, 150, 151, 152, 153, 154, 155, 169, 170, 171, 172, 173, 174] (by decide +kernel) (by decide +kernel)
set_option maxRecDepth 20000 in
theorem gX6_poll_X6_recordChange : GoodIn wsX6_poll (wsV RX6 123 RX6 yX6_recordChange wsX6_recordChange) := goodIn_app (goodIn_of _ (by decide +kernel)) ggX6_poll_X6_recordChange
theorem dX6_poll_0 : decode cX6_poll 0 = .ok (.iload_n 1, 1) := by decide +kernel
theorem dX6_poll_1 : decode cX6_poll 1 = .ok (.iconst 1, 1) := by decide +kernel
theorem dX6_poll_2 : decode cX6_poll 2 = .ok (.sipush 200, 3) := by decide +kernel
theorem dX6_poll_5 : decode cX6_poll 5 = .ok (.invokestatic 63, 3) := by decide +kernel
theorem dX6_poll_8 : decode cX6_poll 8 = .ok (.ifCond .eq 13, 3) := by decide +kernel
theorem dX6_poll_11 : decode cX6_poll 11 = .ok (.new 67, 3) := by decide +kernel
theorem dX6_poll_14 : decode cX6_poll 14 = .ok (.dup, 1) := by decide +kernel
theorem dX6_poll_15 : decode cX6_poll 15 = .ok (.ldc 114, 2) := by decide +kernel
theorem dX6_poll_17 : decode cX6_poll 17 = .ok (.invokespecial 71, 3) := by decide +kernel
theorem dX6_poll_20 : decode cX6_poll 20 = .ok (.athrow, 1) := by decide +kernel
theorem dX6_poll_21 : decode cX6_poll 21 = .ok (.iconst 0, 1) := by decide +kernel
theorem dX6_poll_22 : decode cX6_poll 22 = .ok (.istore_n 2, 1) := by decide +kernel
theorem dX6_poll_23 : decode cX6_poll 23 = .ok (.iconst 0, 1) := by decide +kernel
theorem dX6_poll_24 : decode cX6_poll 24 = .ok (.istore_n 3, 1) := by decide +kernel
theorem dX6_poll_25 : decode cX6_poll 25 = .ok (.iload_n 3, 1) := by decide +kernel
theorem dX6_poll_26 : decode cX6_poll 26 = .ok (.iload_n 1, 1) := by decide +kernel
theorem dX6_poll_27 : decode cX6_poll 27 = .ok (.if_icmp .ge 40, 3) := by decide +kernel
theorem dX6_poll_30 : decode cX6_poll 30 = .ok (.aload_n 0, 1) := by decide +kernel
theorem dX6_poll_31 : decode cX6_poll 31 = .ok (.dup, 1) := by decide +kernel
theorem dX6_poll_32 : decode cX6_poll 32 = .ok (.getfield 116, 3) := by decide +kernel
theorem dX6_poll_35 : decode cX6_poll 35 = .ok (.iconst 1, 1) := by decide +kernel
theorem dX6_poll_36 : decode cX6_poll 36 = .ok (.iadd, 1) := by decide +kernel
theorem dX6_poll_37 : decode cX6_poll 37 = .ok (.putfield 116, 3) := by decide +kernel
theorem dX6_poll_40 : decode cX6_poll 40 = .ok (.aload_n 0, 1) := by decide +kernel
theorem dX6_poll_41 : decode cX6_poll 41 = .ok (.getfield 21, 3) := by decide +kernel
theorem dX6_poll_44 : decode cX6_poll 44 = .ok (.aload_n 0, 1) := by decide +kernel
theorem dX6_poll_45 : decode cX6_poll 45 = .ok (.getfield 55, 3) := by decide +kernel
theorem dX6_poll_48 : decode cX6_poll 48 = .ok (.invokevirtual 119, 3) := by decide +kernel
theorem dX6_poll_51 : decode cX6_poll 51 = .ok (.ifCond .eq 10, 3) := by decide +kernel
theorem dX6_poll_54 : decode cX6_poll 54 = .ok (.aload_n 0, 1) := by decide +kernel
theorem dX6_poll_55 : decode cX6_poll 55 = .ok (.invokevirtual 123, 3) := by decide +kernel
theorem dX6_poll_58 : decode cX6_poll 58 = .ok (.iinc 2 1, 3) := by decide +kernel
theorem dX6_poll_61 : decode cX6_poll 61 = .ok (.iinc 3 1, 3) := by decide +kernel
theorem dX6_poll_64 : decode cX6_poll 64 = .ok (.goto (-39), 3) := by decide +kernel
theorem dX6_poll_67 : decode cX6_poll 67 = .ok (.iload_n 2, 1) := by decide +kernel
theorem dX6_poll_68 : decode cX6_poll 68 = .ok (.ireturn, 1) := by decide +kernel
set_option maxRecDepth 20000 in
theorem ggX6_reset_X2_isLockedOut : GoodIn wsX6_reset wsX2_isLockedOut := goodIn_r _ [10, 11, 69, 70, 71, 72, 73, 74, 75, 76, 77, 78, 79] (by decide +kernel) (by decide +kernel)
set_option maxRecDepth 20000 in
theorem gX6_reset_X2_isLockedOut : GoodIn wsX6_reset (wsV RX6 126 RX2 yX2_isLockedOut wsX2_isLockedOut) := goodIn_app (goodIn_of _ (by decide +kernel)) ggX6_reset_X2_isLockedOut
set_option maxRecDepth 20000 in
theorem ggX6_reset_X2_hasFlame : GoodIn wsX6_reset wsX2_hasFlame := goodIn_r _ [15, 16, 17, 69, 70, 71, 72, 73, 74, 75, 76, 77, 78, 79, 80, 81] (by decide +kernel) (by decide +kernel)
set_option maxRecDepth 20000 in
theorem gX6_reset_X2_hasFlame : GoodIn wsX6_reset (wsV RX6 130 RX2 yX2_hasFlame wsX2_hasFlame) := goodIn_app (goodIn_of _ (by decide +kernel)) ggX6_reset_X2_hasFlame
set_option maxRecDepth 20000 in
theorem ggX6_reset_X4_recent : GoodIn wsX6_reset wsX4_recent := goodIn_r _ [22, 23, 24, 25, 26, 27, 21, 28, 82, 83, 84] (by decide +kernel) (by decide +kernel)
set_option maxRecDepth 20000 in
theorem gX6_reset_X4_recent : GoodIn wsX6_reset (wsV RX6 141 RX4 yX4_recent wsX4_recent) := goodIn_app (goodIn_of _ (by decide +kernel)) ggX6_reset_X4_recent
set_option maxRecDepth 20000 in
theorem ggX6_reset_X2_begin : GoodIn wsX6_reset wsX2_begin := goodIn_r _ [32, 11, 33, 34, 35, 36, 69, 70, 71, 72, 73, 74, 75, 76, 77, 78, 79] (by decide +kernel) (by decide +kernel)
set_option maxRecDepth 20000 in
theorem gX6_reset_X2_begin : GoodIn wsX6_reset (wsV RX6 147 RX2 yX2_begin wsX2_begin) := goodIn_app (goodIn_of _ (by decide +kernel)) ggX6_reset_X2_begin
set_option maxRecDepth 20000 in
theorem ggX6_reset_X6_recordChange : GoodIn wsX6_reset wsX6_recordChange := goodIn_r _ [41, 42, 5, 3, 43, 44, 45, 46, 47, 48, 49, 50, 51, 52, 53, 54, 55, 56, 57, 62, 63, 64, 65, 66, 67, 68, 69, 70, 71, 72, 73, 74, 75, 76, 77, 78, 79, 85, 86, 87, 88, 89, 90] (by decide +kernel) (by decide +kernel)
set_option maxRecDepth 20000 in
theorem gX6_reset_X6_recordChange : GoodIn wsX6_reset (wsV RX6 123 RX6 yX6_recordChange wsX6_recordChange) := goodIn_app (goodIn_of _ (by decide +kernel)) ggX6_reset_X6_recordChange
set_option maxRecDepth 20000 in
theorem ggX6_reset_X4_add : GoodIn wsX6_reset wsX4_add := goodIn_r _ [61, 24, 25, 23, 82, 83, 84] (by decide +kernel) (by decide +kernel)
set_option maxRecDepth 20000 in
theorem gX6_reset_X4_add : GoodIn wsX6_reset (wsV RX6 150 RX4 yX4_add wsX4_add) := goodIn_app (goodIn_of _ (by decide +kernel)) ggX6_reset_X4_add
theorem dX6_reset_0 : decode cX6_reset 0 = .ok (.aload_n 0, 1) := by decide +kernel
theorem dX6_reset_1 : decode cX6_reset 1 = .ok (.getfield 21, 3) := by decide +kernel
theorem dX6_reset_4 : decode cX6_reset 4 = .ok (.invokevirtual 126, 3) := by decide +kernel
theorem dX6_reset_7 : decode cX6_reset 7 = .ok (.ifCond .eq 13, 3) := by decide +kernel
theorem dX6_reset_10 : decode cX6_reset 10 = .ok (.aload_n 0, 1) := by decide +kernel
theorem dX6_reset_11 : decode cX6_reset 11 = .ok (.getfield 21, 3) := by decide +kernel
theorem dX6_reset_14 : decode cX6_reset 14 = .ok (.invokevirtual 130, 3) := by decide +kernel
theorem dX6_reset_17 : decode cX6_reset 17 = .ok (.ifCond .eq 13, 3) := by decide +kernel
theorem dX6_reset_20 : decode cX6_reset 20 = .ok (.new 133, 3) := by decide +kernel
theorem dX6_reset_23 : decode cX6_reset 23 = .ok (.dup, 1) := by decide +kernel
theorem dX6_reset_24 : decode cX6_reset 24 = .ok (.ldc 135, 2) := by decide +kernel
theorem dX6_reset_26 : decode cX6_reset 26 = .ok (.invokespecial 137, 3) := by decide +kernel
theorem dX6_reset_29 : decode cX6_reset 29 = .ok (.athrow, 1) := by decide +kernel
theorem dX6_reset_30 : decode cX6_reset 30 = .ok (.aload_n 0, 1) := by decide +kernel
theorem dX6_reset_31 : decode cX6_reset 31 = .ok (.getfield 21, 3) := by decide +kernel
theorem dX6_reset_34 : decode cX6_reset 34 = .ok (.getfield 138, 3) := by decide +kernel
theorem dX6_reset_37 : decode cX6_reset 37 = .ok (.iconst 5, 1) := by decide +kernel
theorem dX6_reset_38 : decode cX6_reset 38 = .ok (.if_icmp .lt 18, 3) := by decide +kernel
theorem dX6_reset_41 : decode cX6_reset 41 = .ok (.aload_n 0, 1) := by decide +kernel
theorem dX6_reset_42 : decode cX6_reset 42 = .ok (.getfield 35, 3) := by decide +kernel
theorem dX6_reset_45 : decode cX6_reset 45 = .ok (.aload_n 0, 1) := by decide +kernel
theorem dX6_reset_46 : decode cX6_reset 46 = .ok (.getfield 116, 3) := by decide +kernel
theorem dX6_reset_49 : decode cX6_reset 49 = .ok (.invokevirtual 141, 3) := by decide +kernel
theorem dX6_reset_52 : decode cX6_reset 52 = .ok (.iconst 3, 1) := by decide +kernel
theorem dX6_reset_53 : decode cX6_reset 53 = .ok (.if_icmp .lt 13, 3) := by decide +kernel
theorem dX6_reset_56 : decode cX6_reset 56 = .ok (.new 133, 3) := by decide +kernel
theorem dX6_reset_59 : decode cX6_reset 59 = .ok (.dup, 1) := by decide +kernel
theorem dX6_reset_60 : decode cX6_reset 60 = .ok (.ldc 145, 2) := by decide +kernel
theorem dX6_reset_62 : decode cX6_reset 62 = .ok (.invokespecial 137, 3) := by decide +kernel
theorem dX6_reset_65 : decode cX6_reset 65 = .ok (.athrow, 1) := by decide +kernel
theorem dX6_reset_66 : decode cX6_reset 66 = .ok (.aload_n 0, 1) := by decide +kernel
theorem dX6_reset_67 : decode cX6_reset 67 = .ok (.getfield 21, 3) := by decide +kernel
theorem dX6_reset_70 : decode cX6_reset 70 = .ok (.iconst 0, 1) := by decide +kernel
theorem dX6_reset_71 : decode cX6_reset 71 = .ok (.iconst 0, 1) := by decide +kernel
theorem dX6_reset_72 : decode cX6_reset 72 = .ok (.invokevirtual 147, 3) := by decide +kernel
theorem dX6_reset_75 : decode cX6_reset 75 = .ok (.pop, 1) := by decide +kernel
theorem dX6_reset_76 : decode cX6_reset 76 = .ok (.aload_n 0, 1) := by decide +kernel
theorem dX6_reset_77 : decode cX6_reset 77 = .ok (.invokevirtual 123, 3) := by decide +kernel
theorem dX6_reset_80 : decode cX6_reset 80 = .ok (.aload_n 0, 1) := by decide +kernel
theorem dX6_reset_81 : decode cX6_reset 81 = .ok (.getfield 35, 3) := by decide +kernel
theorem dX6_reset_84 : decode cX6_reset 84 = .ok (.aload_n 0, 1) := by decide +kernel
theorem dX6_reset_85 : decode cX6_reset 85 = .ok (.getfield 116, 3) := by decide +kernel
theorem dX6_reset_88 : decode cX6_reset 88 = .ok (.invokevirtual 150, 3) := by decide +kernel
theorem dX6_reset_91 : decode cX6_reset 91 = .ok (.aload_n 0, 1) := by decide +kernel
theorem dX6_reset_92 : decode cX6_reset 92 = .ok (.getfield 35, 3) := by decide +kernel
theorem dX6_reset_95 : decode cX6_reset 95 = .ok (.aload_n 0, 1) := by decide +kernel
theorem dX6_reset_96 : decode cX6_reset 96 = .ok (.getfield 116, 3) := by decide +kernel
theorem dX6_reset_99 : decode cX6_reset 99 = .ok (.invokevirtual 141, 3) := by decide +kernel
theorem dX6_reset_102 : decode cX6_reset 102 = .ok (.ireturn, 1) := by decide +kernel
theorem dX6_ticks_0 : decode cX6_ticks 0 = .ok (.aload_n 0, 1) := by decide +kernel
theorem dX6_ticks_1 : decode cX6_ticks 1 = .ok (.getfield 116, 3) := by decide +kernel
theorem dX6_ticks_4 : decode cX6_ticks 4 = .ok (.ireturn, 1) := by decide +kernel
theorem dX6_state_0 : decode cX6_state 0 = .ok (.aload_n 0, 1) := by decide +kernel
theorem dX6_state_1 : decode cX6_state 1 = .ok (.getfield 21, 3) := by decide +kernel
theorem dX6_state_4 : decode cX6_state 4 = .ok (.getfield 154, 3) := by decide +kernel
theorem dX6_state_7 : decode cX6_state 7 = .ok (.ireturn, 1) := by decide +kernel
theorem dX6_reason_0 : decode cX6_reason 0 = .ok (.aload_n 0, 1) := by decide +kernel
theorem dX6_reason_1 : decode cX6_reason 1 = .ok (.getfield 21, 3) := by decide +kernel
theorem dX6_reason_4 : decode cX6_reason 4 = .ok (.getfield 157, 3) := by decide +kernel
theorem dX6_reason_7 : decode cX6_reason 7 = .ok (.ireturn, 1) := by decide +kernel
theorem dX6_time_0 : decode cX6_time 0 = .ok (.aload_n 0, 1) := by decide +kernel
theorem dX6_time_1 : decode cX6_time 1 = .ok (.getfield 21, 3) := by decide +kernel
theorem dX6_time_4 : decode cX6_time 4 = .ok (.getfield 138, 3) := by decide +kernel
theorem dX6_time_7 : decode cX6_time 7 = .ok (.ireturn, 1) := by decide +kernel
set_option maxRecDepth 20000 in
theorem ggX6_isOpen_X2_isMainOpen : GoodIn wsX6_isOpen wsX2_isMainOpen := goodIn_r _ [6, 7, 19, 20, 21, 22, 23, 24, 25, 26, 27, 28, 29] (by decide +kernel) (by decide +kernel)
set_option maxRecDepth 20000 in
theorem gX6_isOpen_X2_isMainOpen : GoodIn wsX6_isOpen (wsV RX6 160 RX2 yX2_isMainOpen wsX2_isMainOpen) := goodIn_app (goodIn_of _ (by decide +kernel)) ggX6_isOpen_X2_isMainOpen
set_option maxRecDepth 20000 in
theorem ggX6_isOpen_X2_isPilotOpen : GoodIn wsX6_isOpen wsX2_isPilotOpen := goodIn_r _ [11, 7, 19, 20, 21, 22, 23, 24, 25, 26, 27, 28, 29] (by decide +kernel) (by decide +kernel)
set_option maxRecDepth 20000 in
theorem gX6_isOpen_X2_isPilotOpen : GoodIn wsX6_isOpen (wsV RX6 163 RX2 yX2_isPilotOpen wsX2_isPilotOpen) := goodIn_app (goodIn_of _ (by decide +kernel)) ggX6_isOpen_X2_isPilotOpen
theorem dX6_isOpen_0 : decode cX6_isOpen 0 = .ok (.iload_n 1, 1) := by decide +kernel
theorem dX6_isOpen_1 : decode cX6_isOpen 1 = .ok (.ifCond .eq 13, 3) := by decide +kernel
theorem dX6_isOpen_4 : decode cX6_isOpen 4 = .ok (.aload_n 0, 1) := by decide +kernel
theorem dX6_isOpen_5 : decode cX6_isOpen 5 = .ok (.getfield 21, 3) := by decide +kernel
theorem dX6_isOpen_8 : decode cX6_isOpen 8 = .ok (.invokevirtual 160, 3) := by decide +kernel
theorem dX6_isOpen_11 : decode cX6_isOpen 11 = .ok (.goto 10, 3) := by decide +kernel
theorem dX6_isOpen_14 : decode cX6_isOpen 14 = .ok (.aload_n 0, 1) := by decide +kernel
theorem dX6_isOpen_15 : decode cX6_isOpen 15 = .ok (.getfield 21, 3) := by decide +kernel
theorem dX6_isOpen_18 : decode cX6_isOpen 18 = .ok (.invokevirtual 163, 3) := by decide +kernel
theorem dX6_isOpen_21 : decode cX6_isOpen 21 = .ok (.ireturn, 1) := by decide +kernel
theorem dX6_sees_0 : decode cX6_sees 0 = .ok (.iload_n 1, 1) := by decide +kernel
theorem dX6_sees_1 : decode cX6_sees 1 = .ok (.ifCond .eq 16, 3) := by decide +kernel
theorem dX6_sees_4 : decode cX6_sees 4 = .ok (.aload_n 0, 1) := by decide +kernel
theorem dX6_sees_5 : decode cX6_sees 5 = .ok (.getfield 21, 3) := by decide +kernel
theorem dX6_sees_8 : decode cX6_sees 8 = .ok (.getfield 166, 3) := by decide +kernel
theorem dX6_sees_11 : decode cX6_sees 11 = .ok (.getfield 170, 3) := by decide +kernel
theorem dX6_sees_14 : decode cX6_sees 14 = .ok (.goto 13, 3) := by decide +kernel
theorem dX6_sees_17 : decode cX6_sees 17 = .ok (.aload_n 0, 1) := by decide +kernel
theorem dX6_sees_18 : decode cX6_sees 18 = .ok (.getfield 21, 3) := by decide +kernel
theorem dX6_sees_21 : decode cX6_sees 21 = .ok (.getfield 176, 3) := by decide +kernel
theorem dX6_sees_24 : decode cX6_sees 24 = .ok (.getfield 170, 3) := by decide +kernel
theorem dX6_sees_27 : decode cX6_sees 27 = .ok (.ireturn, 1) := by decide +kernel
theorem dX6_air_0 : decode cX6_air 0 = .ok (.aload_n 0, 1) := by decide +kernel
theorem dX6_air_1 : decode cX6_air 1 = .ok (.getfield 21, 3) := by decide +kernel
theorem dX6_air_4 : decode cX6_air 4 = .ok (.getfield 179, 3) := by decide +kernel
theorem dX6_air_7 : decode cX6_air 7 = .ok (.ireturn, 1) := by decide +kernel
theorem dX6_fuel_0 : decode cX6_fuel 0 = .ok (.aload_n 0, 1) := by decide +kernel
theorem dX6_fuel_1 : decode cX6_fuel 1 = .ok (.getfield 21, 3) := by decide +kernel
theorem dX6_fuel_4 : decode cX6_fuel 4 = .ok (.getfield 182, 3) := by decide +kernel
theorem dX6_fuel_7 : decode cX6_fuel 7 = .ok (.ireturn, 1) := by decide +kernel
theorem dX6_purged_0 : decode cX6_purged 0 = .ok (.aload_n 0, 1) := by decide +kernel
theorem dX6_purged_1 : decode cX6_purged 1 = .ok (.getfield 21, 3) := by decide +kernel
theorem dX6_purged_4 : decode cX6_purged 4 = .ok (.getfield 185, 3) := by decide +kernel
theorem dX6_purged_7 : decode cX6_purged 7 = .ok (.ireturn, 1) := by decide +kernel
theorem dX6_unlit_0 : decode cX6_unlit 0 = .ok (.aload_n 0, 1) := by decide +kernel
theorem dX6_unlit_1 : decode cX6_unlit 1 = .ok (.getfield 21, 3) := by decide +kernel
theorem dX6_unlit_4 : decode cX6_unlit 4 = .ok (.getfield 188, 3) := by decide +kernel
theorem dX6_unlit_7 : decode cX6_unlit 7 = .ok (.ireturn, 1) := by decide +kernel
theorem dX6_longestUnlit_0 : decode cX6_longestUnlit 0 = .ok (.aload_n 0, 1) := by decide +kernel
theorem dX6_longestUnlit_1 : decode cX6_longestUnlit 1 = .ok (.getfield 21, 3) := by decide +kernel
theorem dX6_longestUnlit_4 : decode cX6_longestUnlit 4 = .ok (.getfield 191, 3) := by decide +kernel
theorem dX6_longestUnlit_7 : decode cX6_longestUnlit 7 = .ok (.ireturn, 1) := by decide +kernel
theorem dX6_changes_0 : decode cX6_changes 0 = .ok (.aload_n 0, 1) := by decide +kernel
theorem dX6_changes_1 : decode cX6_changes 1 = .ok (.getfield 28, 3) := by decide +kernel
theorem dX6_changes_4 : decode cX6_changes 4 = .ok (.getfield 194, 3) := by decide +kernel
theorem dX6_changes_7 : decode cX6_changes 7 = .ok (.ireturn, 1) := by decide +kernel
theorem dX6_records_0 : decode cX6_records 0 = .ok (.aload_n 0, 1) := by decide +kernel
theorem dX6_records_1 : decode cX6_records 1 = .ok (.getfield 28, 3) := by decide +kernel
theorem dX6_records_4 : decode cX6_records 4 = .ok (.getfield 197, 3) := by decide +kernel
theorem dX6_records_7 : decode cX6_records 7 = .ok (.ireturn, 1) := by decide +kernel
set_option maxRecDepth 20000 in
theorem ggX6_tickOf_X3_has : GoodIn wsX6_tickOf wsX3_has := goodIn_r _ [8, 9, 22, 23, 24, 25, 26, 27] (by decide +kernel) (by decide +kernel)
set_option maxRecDepth 20000 in
theorem gX6_tickOf_X3_has : GoodIn wsX6_tickOf (wsV RX6 200 RX3 yX3_has wsX3_has) := goodIn_app (goodIn_of _ (by decide +kernel)) ggX6_tickOf_X3_has
set_option maxRecDepth 20000 in
theorem ggX6_tickOf_X3_read : GoodIn wsX6_tickOf wsX3_read := goodIn_r _ [13, 14, 22, 23, 24, 25, 26, 27] (by decide +kernel) (by decide +kernel)
set_option maxRecDepth 20000 in
theorem gX6_tickOf_X3_read : GoodIn wsX6_tickOf (wsV RX6 209 RX3 yX3_read wsX3_read) := goodIn_app (goodIn_of _ (by decide +kernel)) ggX6_tickOf_X3_read
theorem dX6_tickOf_0 : decode cX6_tickOf 0 = .ok (.aload_n 0, 1) := by decide +kernel
theorem dX6_tickOf_1 : decode cX6_tickOf 1 = .ok (.getfield 28, 3) := by decide +kernel
theorem dX6_tickOf_4 : decode cX6_tickOf 4 = .ok (.iload_n 1, 1) := by decide +kernel
theorem dX6_tickOf_5 : decode cX6_tickOf 5 = .ok (.invokevirtual 200, 3) := by decide +kernel
theorem dX6_tickOf_8 : decode cX6_tickOf 8 = .ok (.ifCond .ne 13, 3) := by decide +kernel
theorem dX6_tickOf_11 : decode cX6_tickOf 11 = .ok (.new 48, 3) := by decide +kernel
theorem dX6_tickOf_14 : decode cX6_tickOf 14 = .ok (.dup, 1) := by decide +kernel
theorem dX6_tickOf_15 : decode cX6_tickOf 15 = .ok (.ldc 203, 2) := by decide +kernel
theorem dX6_tickOf_17 : decode cX6_tickOf 17 = .ok (.invokespecial 52, 3) := by decide +kernel
theorem dX6_tickOf_20 : decode cX6_tickOf 20 = .ok (.athrow, 1) := by decide +kernel
theorem dX6_tickOf_21 : decode cX6_tickOf 21 = .ok (.aload_n 0, 1) := by decide +kernel
theorem dX6_tickOf_22 : decode cX6_tickOf 22 = .ok (.getfield 28, 3) := by decide +kernel
theorem dX6_tickOf_25 : decode cX6_tickOf 25 = .ok (.aload_n 0, 1) := by decide +kernel
theorem dX6_tickOf_26 : decode cX6_tickOf 26 = .ok (.getfield 28, 3) := by decide +kernel
theorem dX6_tickOf_29 : decode cX6_tickOf 29 = .ok (.getfield 205, 3) := by decide +kernel
theorem dX6_tickOf_32 : decode cX6_tickOf 32 = .ok (.iload_n 1, 1) := by decide +kernel
theorem dX6_tickOf_33 : decode cX6_tickOf 33 = .ok (.invokevirtual 209, 3) := by decide +kernel
theorem dX6_tickOf_36 : decode cX6_tickOf 36 = .ok (.ireturn, 1) := by decide +kernel
set_option maxRecDepth 20000 in
theorem ggX6_stateOf_X3_has : GoodIn wsX6_stateOf wsX3_has := goodIn_r _ [8, 9, 22, 23, 24, 25, 26, 27] (by decide +kernel) (by decide +kernel)
set_option maxRecDepth 20000 in
theorem gX6_stateOf_X3_has : GoodIn wsX6_stateOf (wsV RX6 200 RX3 yX3_has wsX3_has) := goodIn_app (goodIn_of _ (by decide +kernel)) ggX6_stateOf_X3_has
set_option maxRecDepth 20000 in
theorem ggX6_stateOf_X3_read : GoodIn wsX6_stateOf wsX3_read := goodIn_r _ [13, 14, 22, 23, 24, 25, 26, 27] (by decide +kernel) (by decide +kernel)
set_option maxRecDepth 20000 in
theorem gX6_stateOf_X3_read : GoodIn wsX6_stateOf (wsV RX6 209 RX3 yX3_read wsX3_read) := goodIn_app (goodIn_of _ (by decide +kernel)) ggX6_stateOf_X3_read
theorem dX6_stateOf_0 : decode cX6_stateOf 0 = .ok (.aload_n 0, 1) := by decide +kernel
theorem dX6_stateOf_1 : decode cX6_stateOf 1 = .ok (.getfield 28, 3) := by decide +kernel
theorem dX6_stateOf_4 : decode cX6_stateOf 4 = .ok (.iload_n 1, 1) := by decide +kernel
theorem dX6_stateOf_5 : decode cX6_stateOf 5 = .ok (.invokevirtual 200, 3) := by decide +kernel
theorem dX6_stateOf_8 : decode cX6_stateOf 8 = .ok (.ifCond .ne 13, 3) := by decide +kernel
theorem dX6_stateOf_11 : decode cX6_stateOf 11 = .ok (.new 48, 3) := by decide +kernel
theorem dX6_stateOf_14 : decode cX6_stateOf 14 = .ok (.dup, 1) := by decide +kernel
theorem dX6_stateOf_15 : decode cX6_stateOf 15 = .ok (.ldc 203, 2) := by decide +kernel
theorem dX6_stateOf_17 : decode cX6_stateOf 17 = .ok (.invokespecial 52, 3) := by decide +kernel
theorem dX6_stateOf_20 : decode cX6_stateOf 20 = .ok (.athrow, 1) := by decide +kernel
theorem dX6_stateOf_21 : decode cX6_stateOf 21 = .ok (.aload_n 0, 1) := by decide +kernel
theorem dX6_stateOf_22 : decode cX6_stateOf 22 = .ok (.getfield 28, 3) := by decide +kernel
theorem dX6_stateOf_25 : decode cX6_stateOf 25 = .ok (.aload_n 0, 1) := by decide +kernel
theorem dX6_stateOf_26 : decode cX6_stateOf 26 = .ok (.getfield 28, 3) := by decide +kernel
theorem dX6_stateOf_29 : decode cX6_stateOf 29 = .ok (.getfield 213, 3) := by decide +kernel
theorem dX6_stateOf_32 : decode cX6_stateOf 32 = .ok (.iload_n 1, 1) := by decide +kernel
theorem dX6_stateOf_33 : decode cX6_stateOf 33 = .ok (.invokevirtual 209, 3) := by decide +kernel
theorem dX6_stateOf_36 : decode cX6_stateOf 36 = .ok (.ireturn, 1) := by decide +kernel
set_option maxRecDepth 20000 in
theorem ggX6_reasonOf_X3_has : GoodIn wsX6_reasonOf wsX3_has := goodIn_r _ [8, 9, 22, 23, 24, 25, 26, 27] (by decide +kernel) (by decide +kernel)
set_option maxRecDepth 20000 in
theorem gX6_reasonOf_X3_has : GoodIn wsX6_reasonOf (wsV RX6 200 RX3 yX3_has wsX3_has) := goodIn_app (goodIn_of _ (by decide +kernel)) ggX6_reasonOf_X3_has
set_option maxRecDepth 20000 in
theorem ggX6_reasonOf_X3_read : GoodIn wsX6_reasonOf wsX3_read := goodIn_r _ [13, 14, 22, 23, 24, 25, 26, 27] (by decide +kernel) (by decide +kernel)
set_option maxRecDepth 20000 in
theorem gX6_reasonOf_X3_read : GoodIn wsX6_reasonOf (wsV RX6 209 RX3 yX3_read wsX3_read) := goodIn_app (goodIn_of _ (by decide +kernel)) ggX6_reasonOf_X3_read
theorem dX6_reasonOf_0 : decode cX6_reasonOf 0 = .ok (.aload_n 0, 1) := by decide +kernel
theorem dX6_reasonOf_1 : decode cX6_reasonOf 1 = .ok (.getfield 28, 3) := by decide +kernel
theorem dX6_reasonOf_4 : decode cX6_reasonOf 4 = .ok (.iload_n 1, 1) := by decide +kernel
theorem dX6_reasonOf_5 : decode cX6_reasonOf 5 = .ok (.invokevirtual 200, 3) := by decide +kernel
theorem dX6_reasonOf_8 : decode cX6_reasonOf 8 = .ok (.ifCond .ne 13, 3) := by decide +kernel
theorem dX6_reasonOf_11 : decode cX6_reasonOf 11 = .ok (.new 48, 3) := by decide +kernel
theorem dX6_reasonOf_14 : decode cX6_reasonOf 14 = .ok (.dup, 1) := by decide +kernel
theorem dX6_reasonOf_15 : decode cX6_reasonOf 15 = .ok (.ldc 203, 2) := by decide +kernel
theorem dX6_reasonOf_17 : decode cX6_reasonOf 17 = .ok (.invokespecial 52, 3) := by decide +kernel
theorem dX6_reasonOf_20 : decode cX6_reasonOf 20 = .ok (.athrow, 1) := by decide +kernel
theorem dX6_reasonOf_21 : decode cX6_reasonOf 21 = .ok (.aload_n 0, 1) := by decide +kernel
theorem dX6_reasonOf_22 : decode cX6_reasonOf 22 = .ok (.getfield 28, 3) := by decide +kernel
theorem dX6_reasonOf_25 : decode cX6_reasonOf 25 = .ok (.aload_n 0, 1) := by decide +kernel
theorem dX6_reasonOf_26 : decode cX6_reasonOf 26 = .ok (.getfield 28, 3) := by decide +kernel
theorem dX6_reasonOf_29 : decode cX6_reasonOf 29 = .ok (.getfield 216, 3) := by decide +kernel
theorem dX6_reasonOf_32 : decode cX6_reasonOf 32 = .ok (.iload_n 1, 1) := by decide +kernel
theorem dX6_reasonOf_33 : decode cX6_reasonOf 33 = .ok (.invokevirtual 209, 3) := by decide +kernel
theorem dX6_reasonOf_36 : decode cX6_reasonOf 36 = .ok (.ireturn, 1) := by decide +kernel
set_option maxRecDepth 20000 in
theorem ggX6_couldBe_X6_isOutside : GoodIn wsX6_couldBe wsX6_isOutside := goodIn_r _ [8] (by decide +kernel) (by decide +kernel)
set_option maxRecDepth 20000 in
theorem gX6_couldBe_X6_isOutside : GoodIn wsX6_couldBe (va_wsS RX6 63 yX6_isOutside wsX6_isOutside) := goodIn_app (goodIn_of _ (by decide +kernel)) ggX6_couldBe_X6_isOutside
set_option maxRecDepth 20000 in
theorem ggX6_couldBe_X6_walk : GoodIn wsX6_couldBe wsX6_walk := goodIn_r _ [11, 12, 13, 7, 14, 15, 16, 17, 18, 19, 20, 21, 22, 23, 24, 25, 26, 27, 28, 29, 30, 31, 32, 33, 34, 35, 36, 37, 38, 39, 40, 41, 42, 43, 44, 45, 46, 47, 48, 49, 50, 51, 52, 53, 54, 55, 56, 57, 58, 59, 60, 61, 62, 63, 64, 65, 66, 67, 68, 69, 70, 71, 72, 73, 74, 75, 76, 77, 78, 79, 80, 81, 82, 83, 84, 85, 86, 87, 88, 89, 90, 91, 92, 93, 94, 95, 96, 97, 98, 99, 100, 101, 102, 103, 104, 105, 106, 107, 108, 109, 110, 111, 112, 113, 114, 115, 116, 117, 118, 119, 120, 121, 122, 123, 124, 125, 126, 127, 128, 129, 130, 131, 132, 133, 134, 135, 136, 137, 138, 139, 140, 9, 10, 149, 150, 151, 152, 153, 154, 155, 156, 157, 158, 159, 160, 161, 162, 163, 164, 165, 166, 167, 168, 169, 170, 171, 172, 173, 174] (by decide +kernel) (by decide +kernel)
set_option maxRecDepth 20000 in
theorem gX6_couldBe_X6_walk : GoodIn wsX6_couldBe (va_wsS RX6 221 yX6_walk wsX6_walk) := goodIn_app (goodIn_of _ (by decide +kernel)) ggX6_couldBe_X6_walk
set_option maxRecDepth 20000 in
theorem ggX6_couldBe_X6_isOn : GoodIn wsX6_couldBe wsX6_isOn := goodIn_r _ [50] (by decide +kernel) (by decide +kernel)
set_option maxRecDepth 20000 in
theorem gX6_couldBe_X6_isOn : GoodIn wsX6_couldBe (va_wsS RX6 59 yX6_isOn wsX6_isOn) := goodIn_app (goodIn_of _ (by decide +kernel)) ggX6_couldBe_X6_isOn
theorem dX6_couldBe_0 : decode cX6_couldBe 0 = .ok (.iload_n 1, 1) := by decide +kernel
theorem dX6_couldBe_1 : decode cX6_couldBe 1 = .ok (.iconst 0, 1) := by decide +kernel
theorem dX6_couldBe_2 : decode cX6_couldBe 2 = .ok (.bipush 6, 2) := by decide +kernel
theorem dX6_couldBe_4 : decode cX6_couldBe 4 = .ok (.invokestatic 63, 3) := by decide +kernel
theorem dX6_couldBe_7 : decode cX6_couldBe 7 = .ok (.ifCond .ne 12, 3) := by decide +kernel
theorem dX6_couldBe_10 : decode cX6_couldBe 10 = .ok (.iload_n 2, 1) := by decide +kernel
theorem dX6_couldBe_11 : decode cX6_couldBe 11 = .ok (.iconst 1, 1) := by decide +kernel
theorem dX6_couldBe_12 : decode cX6_couldBe 12 = .ok (.iconst 3, 1) := by decide +kernel
theorem dX6_couldBe_13 : decode cX6_couldBe 13 = .ok (.invokestatic 63, 3) := by decide +kernel
theorem dX6_couldBe_16 : decode cX6_couldBe 16 = .ok (.ifCond .eq 13, 3) := by decide +kernel
theorem dX6_couldBe_19 : decode cX6_couldBe 19 = .ok (.new 67, 3) := by decide +kernel
theorem dX6_couldBe_22 : decode cX6_couldBe 22 = .ok (.dup, 1) := by decide +kernel
theorem dX6_couldBe_23 : decode cX6_couldBe 23 = .ok (.ldc 219, 2) := by decide +kernel
theorem dX6_couldBe_25 : decode cX6_couldBe 25 = .ok (.invokespecial 71, 3) := by decide +kernel
theorem dX6_couldBe_28 : decode cX6_couldBe 28 = .ok (.athrow, 1) := by decide +kernel
theorem dX6_couldBe_29 : decode cX6_couldBe 29 = .ok (.aload_n 0, 1) := by decide +kernel
theorem dX6_couldBe_30 : decode cX6_couldBe 30 = .ok (.getfield 44, 3) := by decide +kernel
theorem dX6_couldBe_33 : decode cX6_couldBe 33 = .ok (.aload_n 0, 1) := by decide +kernel
theorem dX6_couldBe_34 : decode cX6_couldBe 34 = .ok (.getfield 21, 3) := by decide +kernel
theorem dX6_couldBe_37 : decode cX6_couldBe 37 = .ok (.iload_n 2, 1) := by decide +kernel
theorem dX6_couldBe_38 : decode cX6_couldBe 38 = .ok (.invokestatic 221, 3) := by decide +kernel
theorem dX6_couldBe_41 : decode cX6_couldBe 41 = .ok (.iconst 1, 1) := by decide +kernel
theorem dX6_couldBe_42 : decode cX6_couldBe 42 = .ok (.iload_n 1, 1) := by decide +kernel
theorem dX6_couldBe_43 : decode cX6_couldBe 43 = .ok (.ishl, 1) := by decide +kernel
theorem dX6_couldBe_44 : decode cX6_couldBe 44 = .ok (.invokestatic 59, 3) := by decide +kernel
theorem dX6_couldBe_47 : decode cX6_couldBe 47 = .ok (.ireturn, 1) := by decide +kernel
set_option maxRecDepth 20000 in
theorem ggX6_reasonsAhead_X6_isOutside : GoodIn wsX6_reasonsAhead wsX6_isOutside := goodIn_r _ [8] (by decide +kernel) (by decide +kernel)
set_option maxRecDepth 20000 in
theorem gX6_reasonsAhead_X6_isOutside : GoodIn wsX6_reasonsAhead (va_wsS RX6 63 yX6_isOutside wsX6_isOutside) := goodIn_app (goodIn_of _ (by decide +kernel)) ggX6_reasonsAhead_X6_isOutside
set_option maxRecDepth 20000 in
theorem ggX6_reasonsAhead_X2_isLockedOut : GoodIn wsX6_reasonsAhead wsX2_isLockedOut := goodIn_r _ [13, 14, 148, 149, 150, 151, 152, 153, 154, 155, 156, 157, 158] (by decide +kernel) (by decide +kernel)
set_option maxRecDepth 20000 in
theorem gX6_reasonsAhead_X2_isLockedOut : GoodIn wsX6_reasonsAhead (wsV RX6 126 RX2 yX2_isLockedOut wsX2_isLockedOut) := goodIn_app (goodIn_of _ (by decide +kernel)) ggX6_reasonsAhead_X2_isLockedOut
set_option maxRecDepth 20000 in
theorem ggX6_reasonsAhead_X6_walk : GoodIn wsX6_reasonsAhead wsX6_walk := goodIn_r _ [17, 18, 19, 7, 20, 21, 22, 23, 12, 24, 25, 26, 14, 27, 28, 29, 30, 31, 32, 33, 34, 35, 36, 37, 38, 39, 40, 41, 42, 43, 44, 45, 46, 47, 48, 49, 50, 51, 52, 53, 54, 55, 56, 57, 58, 59, 60, 61, 62, 63, 64, 65, 66, 67, 68, 69, 70, 71, 72, 73, 74, 75, 76, 77, 78, 79, 80, 81, 82, 83, 84, 85, 86, 87, 88, 89, 90, 91, 92, 93, 94, 95, 96, 97, 98, 99, 100, 101, 102, 103, 104, 105, 106, 107, 108, 109, 110, 111, 112, 113, 114, 115, 116, 117, 118, 119, 120, 121, 122, 123, 124, 125, 126, 127, 128, 129, 130, 131, 132, 133, 134, 135, 136, 137, 138, 139, 140, 9, 10, 11, 13, 15, 16, 148, 149, 150, 151, 152, 153, 154, 155, 156, 157, 158, 159, 160, 161, 162, 163, 164, 165, 166, 167, 168, 169, 170, 171, 172, 173] (by decide +kernel) (by decide +kernel)
set_option maxRecDepth 20000 in
theorem gX6_reasonsAhead_X6_walk : GoodIn wsX6_reasonsAhead (va_wsS RX6 221 yX6_walk wsX6_walk) := goodIn_app (goodIn_of _ (by decide +kernel)) ggX6_reasonsAhead_X6_walk
theorem dX6_reasonsAhead_0 : decode cX6_reasonsAhead 0 = .ok (.iload_n 1, 1) := by decide +kernel
theorem dX6_reasonsAhead_1 : decode cX6_reasonsAhead 1 = .ok (.iconst 1, 1) := by decide +kernel
theorem dX6_reasonsAhead_2 : decode cX6_reasonsAhead 2 = .ok (.iconst 3, 1) := by decide +kernel
theorem dX6_reasonsAhead_3 : decode cX6_reasonsAhead 3 = .ok (.invokestatic 63, 3) := by decide +kernel
theorem dX6_reasonsAhead_6 : decode cX6_reasonsAhead 6 = .ok (.ifCond .eq 13, 3) := by decide +kernel
theorem dX6_reasonsAhead_9 : decode cX6_reasonsAhead 9 = .ok (.new 67, 3) := by decide +kernel
theorem dX6_reasonsAhead_12 : decode cX6_reasonsAhead 12 = .ok (.dup, 1) := by decide +kernel
theorem dX6_reasonsAhead_13 : decode cX6_reasonsAhead 13 = .ok (.ldc 114, 2) := by decide +kernel
theorem dX6_reasonsAhead_15 : decode cX6_reasonsAhead 15 = .ok (.invokespecial 71, 3) := by decide +kernel
theorem dX6_reasonsAhead_18 : decode cX6_reasonsAhead 18 = .ok (.athrow, 1) := by decide +kernel
theorem dX6_reasonsAhead_19 : decode cX6_reasonsAhead 19 = .ok (.aload_n 0, 1) := by decide +kernel
theorem dX6_reasonsAhead_20 : decode cX6_reasonsAhead 20 = .ok (.getfield 21, 3) := by decide +kernel
theorem dX6_reasonsAhead_23 : decode cX6_reasonsAhead 23 = .ok (.invokevirtual 126, 3) := by decide +kernel
theorem dX6_reasonsAhead_26 : decode cX6_reasonsAhead 26 = .ok (.ifCond .eq 5, 3) := by decide +kernel
theorem dX6_reasonsAhead_29 : decode cX6_reasonsAhead 29 = .ok (.iconst 0, 1) := by decide +kernel
theorem dX6_reasonsAhead_30 : decode cX6_reasonsAhead 30 = .ok (.ireturn, 1) := by decide +kernel
theorem dX6_reasonsAhead_31 : decode cX6_reasonsAhead 31 = .ok (.aload_n 0, 1) := by decide +kernel
theorem dX6_reasonsAhead_32 : decode cX6_reasonsAhead 32 = .ok (.getfield 44, 3) := by decide +kernel
theorem dX6_reasonsAhead_35 : decode cX6_reasonsAhead 35 = .ok (.aload_n 0, 1) := by decide +kernel
theorem dX6_reasonsAhead_36 : decode cX6_reasonsAhead 36 = .ok (.getfield 21, 3) := by decide +kernel
theorem dX6_reasonsAhead_39 : decode cX6_reasonsAhead 39 = .ok (.iload_n 1, 1) := by decide +kernel
theorem dX6_reasonsAhead_40 : decode cX6_reasonsAhead 40 = .ok (.invokestatic 221, 3) := by decide +kernel
theorem dX6_reasonsAhead_43 : decode cX6_reasonsAhead 43 = .ok (.bipush 8, 2) := by decide +kernel
theorem dX6_reasonsAhead_45 : decode cX6_reasonsAhead 45 = .ok (.ishr, 1) := by decide +kernel
theorem dX6_reasonsAhead_46 : decode cX6_reasonsAhead 46 = .ok (.ireturn, 1) := by decide +kernel
set_option maxRecDepth 20000 in
theorem ggX6_toPilot_X2_isPilotOpen : GoodIn wsX6_toPilot wsX2_isPilotOpen := goodIn_r _ [7, 8, 133, 134, 135, 136, 137, 138, 139, 140, 141, 142, 143] (by decide +kernel) (by decide +kernel)
set_option maxRecDepth 20000 in
theorem gX6_toPilot_X2_isPilotOpen : GoodIn wsX6_toPilot (wsV RX6 163 RX2 yX2_isPilotOpen wsX2_isPilotOpen) := goodIn_app (goodIn_of _ (by decide +kernel)) ggX6_toPilot_X2_isPilotOpen
set_option maxRecDepth 20000 in
theorem ggX6_toPilot_X2_copyFrom : GoodIn wsX6_toPilot wsX2_copyFrom := goodIn_r _ [12, 13, 14, 8, 15, 16, 17, 18, 19, 20, 21, 22, 23, 24, 25, 26, 27, 28, 133, 134, 135, 136, 137, 138, 139, 140, 141, 142, 143, 144, 145] (by decide +kernel) (by decide +kernel)
set_option maxRecDepth 20000 in
theorem gX6_toPilot_X2_copyFrom : GoodIn wsX6_toPilot (wsV RX6 226 RX2 yX2_copyFrom wsX2_copyFrom) := goodIn_app (goodIn_of _ (by decide +kernel)) ggX6_toPilot_X2_copyFrom
set_option maxRecDepth 20000 in
theorem ggX6_toPilot_X2_tick : GoodIn wsX6_toPilot wsX2_tick := goodIn_r _ [32, 13, 14, 16, 33, 4, 5, 6, 7, 8, 34, 35, 36, 37, 38, 39, 40, 41, 42, 43, 44, 45, 46, 47, 48, 25, 49, 27, 28, 50, 51, 52, 53, 17, 18, 54, 55, 56, 57, 58, 59, 60, 61, 62, 63, 64, 65, 66, 67, 68, 69, 70, 71, 72, 73, 74, 75, 76, 77, 78, 79, 80, 81, 82, 83, 84, 85, 86, 87, 88, 89, 90, 91, 15, 19, 92, 93, 94, 95, 96, 97, 98, 99, 100, 101, 102, 103, 104, 105, 106, 107, 108, 109, 110, 111, 112, 113, 114, 115, 116, 117, 118, 119, 120, 121, 122, 123, 20, 21, 133, 134, 135, 136, 137, 138, 139, 140, 141, 142, 143, 146, 147, 148, 149, 150, 151, 152, 153, 154, 155, 156, 144, 145] (by decide +kernel) (by decide +kernel)
set_option maxRecDepth 20000 in
theorem gX6_toPilot_X2_tick : GoodIn wsX6_toPilot (wsV RX6 119 RX2 yX2_tick wsX2_tick) := goodIn_app (goodIn_of _ (by decide +kernel)) ggX6_toPilot_X2_tick
theorem dX6_toPilot_0 : decode cX6_toPilot 0 = .ok (.aload_n 0, 1) := by decide +kernel
theorem dX6_toPilot_1 : decode cX6_toPilot 1 = .ok (.getfield 21, 3) := by decide +kernel
theorem dX6_toPilot_4 : decode cX6_toPilot 4 = .ok (.invokevirtual 163, 3) := by decide +kernel
theorem dX6_toPilot_7 : decode cX6_toPilot 7 = .ok (.ifCond .eq 5, 3) := by decide +kernel
theorem dX6_toPilot_10 : decode cX6_toPilot 10 = .ok (.iconst 0, 1) := by decide +kernel
theorem dX6_toPilot_11 : decode cX6_toPilot 11 = .ok (.ireturn, 1) := by decide +kernel
theorem dX6_toPilot_12 : decode cX6_toPilot 12 = .ok (.aload_n 0, 1) := by decide +kernel
theorem dX6_toPilot_13 : decode cX6_toPilot 13 = .ok (.getfield 44, 3) := by decide +kernel
theorem dX6_toPilot_16 : decode cX6_toPilot 16 = .ok (.getfield 225, 3) := by decide +kernel
theorem dX6_toPilot_19 : decode cX6_toPilot 19 = .ok (.astore_n 1, 1) := by decide +kernel
theorem dX6_toPilot_20 : decode cX6_toPilot 20 = .ok (.aload_n 1, 1) := by decide +kernel
theorem dX6_toPilot_21 : decode cX6_toPilot 21 = .ok (.aload_n 0, 1) := by decide +kernel
theorem dX6_toPilot_22 : decode cX6_toPilot 22 = .ok (.getfield 21, 3) := by decide +kernel
theorem dX6_toPilot_25 : decode cX6_toPilot 25 = .ok (.invokevirtual 226, 3) := by decide +kernel
theorem dX6_toPilot_28 : decode cX6_toPilot 28 = .ok (.iconst 1, 1) := by decide +kernel
theorem dX6_toPilot_29 : decode cX6_toPilot 29 = .ok (.istore_n 2, 1) := by decide +kernel
theorem dX6_toPilot_30 : decode cX6_toPilot 30 = .ok (.iload_n 2, 1) := by decide +kernel
theorem dX6_toPilot_31 : decode cX6_toPilot 31 = .ok (.sipush 300, 3) := by decide +kernel
theorem dX6_toPilot_34 : decode cX6_toPilot 34 = .ok (.if_icmp .gt 25, 3) := by decide +kernel
theorem dX6_toPilot_37 : decode cX6_toPilot 37 = .ok (.aload_n 1, 1) := by decide +kernel
theorem dX6_toPilot_38 : decode cX6_toPilot 38 = .ok (.bipush 7, 2) := by decide +kernel
theorem dX6_toPilot_40 : decode cX6_toPilot 40 = .ok (.invokevirtual 119, 3) := by decide +kernel
theorem dX6_toPilot_43 : decode cX6_toPilot 43 = .ok (.pop, 1) := by decide +kernel
theorem dX6_toPilot_44 : decode cX6_toPilot 44 = .ok (.aload_n 1, 1) := by decide +kernel
theorem dX6_toPilot_45 : decode cX6_toPilot 45 = .ok (.invokevirtual 163, 3) := by decide +kernel
theorem dX6_toPilot_48 : decode cX6_toPilot 48 = .ok (.ifCond .eq 5, 3) := by decide +kernel
theorem dX6_toPilot_51 : decode cX6_toPilot 51 = .ok (.iload_n 2, 1) := by decide +kernel
theorem dX6_toPilot_52 : decode cX6_toPilot 52 = .ok (.ireturn, 1) := by decide +kernel
theorem dX6_toPilot_53 : decode cX6_toPilot 53 = .ok (.iinc 2 1, 3) := by decide +kernel
theorem dX6_toPilot_56 : decode cX6_toPilot 56 = .ok (.goto (-26), 3) := by decide +kernel
theorem dX6_toPilot_59 : decode cX6_toPilot 59 = .ok (.iconst (-1), 1) := by decide +kernel
theorem dX6_toPilot_60 : decode cX6_toPilot 60 = .ok (.ireturn, 1) := by decide +kernel
theorem dX6_isOn_0 : decode cX6_isOn 0 = .ok (.iload_n 0, 1) := by decide +kernel
theorem dX6_isOn_1 : decode cX6_isOn 1 = .ok (.iload_n 1, 1) := by decide +kernel
theorem dX6_isOn_2 : decode cX6_isOn 2 = .ok (.iand, 1) := by decide +kernel
theorem dX6_isOn_3 : decode cX6_isOn 3 = .ok (.ifCond .eq 7, 3) := by decide +kernel
theorem dX6_isOn_6 : decode cX6_isOn 6 = .ok (.iconst 1, 1) := by decide +kernel
theorem dX6_isOn_7 : decode cX6_isOn 7 = .ok (.goto 4, 3) := by decide +kernel
theorem dX6_isOn_10 : decode cX6_isOn 10 = .ok (.iconst 0, 1) := by decide +kernel
theorem dX6_isOn_11 : decode cX6_isOn 11 = .ok (.ireturn, 1) := by decide +kernel
theorem dX6_isOutside_0 : decode cX6_isOutside 0 = .ok (.iload_n 0, 1) := by decide +kernel
theorem dX6_isOutside_1 : decode cX6_isOutside 1 = .ok (.iload_n 1, 1) := by decide +kernel
theorem dX6_isOutside_2 : decode cX6_isOutside 2 = .ok (.if_icmp .lt 8, 3) := by decide +kernel
theorem dX6_isOutside_5 : decode cX6_isOutside 5 = .ok (.iload_n 0, 1) := by decide +kernel
theorem dX6_isOutside_6 : decode cX6_isOutside 6 = .ok (.iload_n 2, 1) := by decide +kernel
theorem dX6_isOutside_7 : decode cX6_isOutside 7 = .ok (.if_icmp .le 7, 3) := by decide +kernel
theorem dX6_isOutside_10 : decode cX6_isOutside 10 = .ok (.iconst 1, 1) := by decide +kernel
theorem dX6_isOutside_11 : decode cX6_isOutside 11 = .ok (.goto 4, 3) := by decide +kernel
theorem dX6_isOutside_14 : decode cX6_isOutside 14 = .ok (.iconst 0, 1) := by decide +kernel
theorem dX6_isOutside_15 : decode cX6_isOutside 15 = .ok (.ireturn, 1) := by decide +kernel
theorem dX6_refuseUnlessOff_0 : decode cX6_refuseUnlessOff 0 = .ok (.aload_n 0, 1) := by decide +kernel
theorem dX6_refuseUnlessOff_1 : decode cX6_refuseUnlessOff 1 = .ok (.getfield 21, 3) := by decide +kernel
theorem dX6_refuseUnlessOff_4 : decode cX6_refuseUnlessOff 4 = .ok (.getfield 154, 3) := by decide +kernel
theorem dX6_refuseUnlessOff_7 : decode cX6_refuseUnlessOff 7 = .ok (.ifCond .eq 13, 3) := by decide +kernel
theorem dX6_refuseUnlessOff_10 : decode cX6_refuseUnlessOff 10 = .ok (.new 133, 3) := by decide +kernel
theorem dX6_refuseUnlessOff_13 : decode cX6_refuseUnlessOff 13 = .ok (.dup, 1) := by decide +kernel
theorem dX6_refuseUnlessOff_14 : decode cX6_refuseUnlessOff 14 = .ok (.ldc 230, 2) := by decide +kernel
theorem dX6_refuseUnlessOff_16 : decode cX6_refuseUnlessOff 16 = .ok (.invokespecial 137, 3) := by decide +kernel
theorem dX6_refuseUnlessOff_19 : decode cX6_refuseUnlessOff 19 = .ok (.athrow, 1) := by decide +kernel
theorem dX6_refuseUnlessOff_20 : decode cX6_refuseUnlessOff 20 = .ok (.return_, 1) := by decide +kernel
set_option maxRecDepth 20000 in
theorem ggX6_recordChange_X3_add : GoodIn wsX6_recordChange wsX3_add := goodIn_r _ [8, 9, 10, 11, 12, 13, 14, 15, 16, 17, 18, 37, 38, 39, 40, 41, 42] (by decide +kernel) (by decide +kernel)
set_option maxRecDepth 20000 in
theorem gX6_recordChange_X3_add : GoodIn wsX6_recordChange (wsV RX6 232 RX3 yX3_add wsX3_add) := goodIn_app (goodIn_of _ (by decide +kernel)) ggX6_recordChange_X3_add
theorem dX6_recordChange_0 : decode cX6_recordChange 0 = .ok (.aload_n 0, 1) := by decide +kernel
theorem dX6_recordChange_1 : decode cX6_recordChange 1 = .ok (.getfield 28, 3) := by decide +kernel
theorem dX6_recordChange_4 : decode cX6_recordChange 4 = .ok (.aload_n 0, 1) := by decide +kernel
theorem dX6_recordChange_5 : decode cX6_recordChange 5 = .ok (.getfield 116, 3) := by decide +kernel
theorem dX6_recordChange_8 : decode cX6_recordChange 8 = .ok (.aload_n 0, 1) := by decide +kernel
theorem dX6_recordChange_9 : decode cX6_recordChange 9 = .ok (.getfield 21, 3) := by decide +kernel
theorem dX6_recordChange_12 : decode cX6_recordChange 12 = .ok (.getfield 154, 3) := by decide +kernel
theorem dX6_recordChange_15 : decode cX6_recordChange 15 = .ok (.aload_n 0, 1) := by decide +kernel
theorem dX6_recordChange_16 : decode cX6_recordChange 16 = .ok (.getfield 21, 3) := by decide +kernel
theorem dX6_recordChange_19 : decode cX6_recordChange 19 = .ok (.getfield 157, 3) := by decide +kernel
theorem dX6_recordChange_22 : decode cX6_recordChange 22 = .ok (.invokevirtual 232, 3) := by decide +kernel
theorem dX6_recordChange_25 : decode cX6_recordChange 25 = .ok (.return_, 1) := by decide +kernel
set_option maxRecDepth 20000 in
theorem ggX6_walk_X6_tellingSignals : GoodIn wsX6_walk wsX6_tellingSignals := goodIn_r _ [4] (by decide +kernel) (by decide +kernel)
set_option maxRecDepth 20000 in
theorem gX6_walk_X6_tellingSignals : GoodIn wsX6_walk (va_wsS RX6 235 yX6_tellingSignals wsX6_tellingSignals) := goodIn_app (goodIn_of _ (by decide +kernel)) ggX6_walk_X6_tellingSignals
set_option maxRecDepth 20000 in
theorem ggX6_walk_X2_copyFrom : GoodIn wsX6_walk wsX2_copyFrom := goodIn_r _ [9, 10, 11, 12, 13, 14, 15, 16, 17, 18, 19, 20, 21, 22, 23, 24, 25, 26, 133, 134, 135, 136, 137, 138, 139, 140, 141, 142, 143, 146, 147] (by decide +kernel) (by decide +kernel)
set_option maxRecDepth 20000 in
theorem gX6_walk_X2_copyFrom : GoodIn wsX6_walk (wsV RX6 226 RX2 yX2_copyFrom wsX2_copyFrom) := goodIn_app (goodIn_of _ (by decide +kernel)) ggX6_walk_X2_copyFrom
set_option maxRecDepth 20000 in
theorem ggX6_walk_X2_tick : GoodIn wsX6_walk wsX2_tick := goodIn_r _ [30, 10, 11, 14, 31, 32, 33, 8, 34, 12, 35, 36, 37, 38, 39, 3, 40, 41, 42, 43, 44, 45, 46, 47, 48, 23, 49, 25, 26, 50, 51, 52, 53, 15, 16, 54, 55, 56, 57, 58, 59, 60, 61, 62, 63, 64, 65, 66, 67, 68, 69, 70, 71, 72, 73, 74, 75, 76, 77, 78, 79, 80, 81, 82, 83, 84, 85, 86, 87, 88, 89, 90, 91, 13, 17, 92, 93, 94, 95, 96, 97, 98, 99, 100, 101, 102, 103, 104, 105, 106, 107, 108, 109, 110, 111, 112, 113, 114, 115, 116, 117, 118, 119, 120, 121, 122, 123, 18, 19, 133, 134, 135, 136, 137, 138, 139, 140, 141, 142, 143, 148, 149, 150, 151, 152, 153, 154, 155, 156, 157, 158, 146, 147] (by decide +kernel) (by decide +kernel)
set_option maxRecDepth 20000 in
theorem gX6_walk_X2_tick : GoodIn wsX6_walk (wsV RX6 119 RX2 yX2_tick wsX2_tick) := goodIn_app (goodIn_of _ (by decide +kernel)) ggX6_walk_X2_tick
set_option maxRecDepth 20000 in
theorem ggX6_walk_X6_foundAt : GoodIn wsX6_walk wsX6_foundAt := goodIn_r _ [126, 127, 128, 129, 8, 130, 12, 133, 134, 135, 136, 137, 138, 139, 140, 141, 142, 143] (by decide +kernel) (by decide +kernel)
set_option maxRecDepth 20000 in
theorem gX6_walk_X6_foundAt : GoodIn wsX6_walk (va_wsS RX6 238 yX6_foundAt wsX6_foundAt) := goodIn_app (goodIn_of _ (by decide +kernel)) ggX6_walk_X6_foundAt
set_option maxRecDepth 20000 in
theorem ggX6_walk_X2_isLockedOut : GoodIn wsX6_walk wsX2_isLockedOut := goodIn_r _ [130, 12, 133, 134, 135, 136, 137, 138, 139, 140, 141, 142, 143] (by decide +kernel) (by decide +kernel)
set_option maxRecDepth 20000 in
theorem gX6_walk_X2_isLockedOut : GoodIn wsX6_walk (wsV RX6 126 RX2 yX2_isLockedOut wsX2_isLockedOut) := goodIn_app (goodIn_of _ (by decide +kernel)) ggX6_walk_X2_isLockedOut
set_option maxRecDepth 20000 in
theorem ggX6_walk_X6_walk : GoodIn wsX6_walk wsX6_walk := goodIn_r _ [0, 1, 2, 3, 4, 5, 6, 7, 8, 9, 10, 11, 12, 13, 14, 15, 16, 17, 18, 19, 20, 21, 22, 23, 24, 25, 26, 27, 28, 29, 30, 31, 32, 33, 34, 35, 36, 37, 38, 39, 40, 41, 42, 43, 44, 45, 46, 47, 48, 49, 50, 51, 52, 53, 54, 55, 56, 57, 58, 59, 60, 61, 62, 63, 64, 65, 66, 67, 68, 69, 70, 71, 72, 73, 74, 75, 76, 77, 78, 79, 80, 81, 82, 83, 84, 85, 86, 87, 88, 89, 90, 91, 92, 93, 94, 95, 96, 97, 98, 99, 100, 101, 102, 103, 104, 105, 106, 107, 108, 109, 110, 111, 112, 113, 114, 115, 116, 117, 118, 119, 120, 121, 122, 123, 124, 125, 126, 127, 128, 129, 130, 131, 132, 133, 134, 135, 136, 137, 138, 139, 140, 141, 142, 143, 144, 145, 146, 147, 148, 149, 150, 151, 152, 153, 154, 155, 156, 157, 158] (by decide +kernel) (by decide +kernel)
set_option maxRecDepth 20000 in
theorem gX6_walk_X6_walk : GoodIn wsX6_walk (va_wsS RX6 221 yX6_walk wsX6_walk) := goodIn_app (goodIn_of _ (by decide +kernel)) ggX6_walk_X6_walk
theorem dX6_walk_0 : decode cX6_walk 0 = .ok (.aload_n 0, 1) := by decide +kernel
theorem dX6_walk_1 : decode cX6_walk 1 = .ok (.ifnull 7, 3) := by decide +kernel
theorem dX6_walk_4 : decode cX6_walk 4 = .ok (.iload_n 2, 1) := by decide +kernel
theorem dX6_walk_5 : decode cX6_walk 5 = .ok (.ifCond .gt 5, 3) := by decide +kernel
theorem dX6_walk_8 : decode cX6_walk 8 = .ok (.iconst 0, 1) := by decide +kernel
theorem dX6_walk_9 : decode cX6_walk 9 = .ok (.ireturn, 1) := by decide +kernel
theorem dX6_walk_10 : decode cX6_walk 10 = .ok (.iconst 0, 1) := by decide +kernel
theorem dX6_walk_11 : decode cX6_walk 11 = .ok (.istore_n 3, 1) := by decide +kernel
theorem dX6_walk_12 : decode cX6_walk 12 = .ok (.aload_n 1, 1) := by decide +kernel
theorem dX6_walk_13 : decode cX6_walk 13 = .ok (.getfield 154, 3) := by decide +kernel
theorem dX6_walk_16 : decode cX6_walk 16 = .ok (.invokestatic 235, 3) := by decide +kernel
theorem dX6_walk_19 : decode cX6_walk 19 = .ok (.istore 4, 2) := by decide +kernel
theorem dX6_walk_21 : decode cX6_walk 21 = .ok (.aload_n 0, 1) := by decide +kernel
theorem dX6_walk_22 : decode cX6_walk 22 = .ok (.getfield 225, 3) := by decide +kernel
theorem dX6_walk_25 : decode cX6_walk 25 = .ok (.astore 5, 2) := by decide +kernel
theorem dX6_walk_27 : decode cX6_walk 27 = .ok (.iconst 0, 1) := by decide +kernel
theorem dX6_walk_28 : decode cX6_walk 28 = .ok (.istore 6, 2) := by decide +kernel
theorem dX6_walk_30 : decode cX6_walk 30 = .ok (.iload 6, 2) := by decide +kernel
theorem dX6_walk_32 : decode cX6_walk 32 = .ok (.bipush 63, 2) := by decide +kernel
theorem dX6_walk_34 : decode cX6_walk 34 = .ok (.if_icmp .gt 64, 3) := by decide +kernel
theorem dX6_walk_37 : decode cX6_walk 37 = .ok (.iload 6, 2) := by decide +kernel
theorem dX6_walk_39 : decode cX6_walk 39 = .ok (.iload 4, 2) := by decide +kernel
theorem dX6_walk_41 : decode cX6_walk 41 = .ok (.iconst (-1), 1) := by decide +kernel
theorem dX6_walk_42 : decode cX6_walk 42 = .ok (.ixor, 1) := by decide +kernel
theorem dX6_walk_43 : decode cX6_walk 43 = .ok (.iand, 1) := by decide +kernel
theorem dX6_walk_44 : decode cX6_walk 44 = .ok (.ifCond .ne 48, 3) := by decide +kernel
theorem dX6_walk_47 : decode cX6_walk 47 = .ok (.aload 5, 2) := by decide +kernel
theorem dX6_walk_49 : decode cX6_walk 49 = .ok (.aload_n 1, 1) := by decide +kernel
theorem dX6_walk_50 : decode cX6_walk 50 = .ok (.invokevirtual 226, 3) := by decide +kernel
theorem dX6_walk_53 : decode cX6_walk 53 = .ok (.aload 5, 2) := by decide +kernel
theorem dX6_walk_55 : decode cX6_walk 55 = .ok (.iload 6, 2) := by decide +kernel
theorem dX6_walk_57 : decode cX6_walk 57 = .ok (.invokevirtual 119, 3) := by decide +kernel
theorem dX6_walk_60 : decode cX6_walk 60 = .ok (.pop, 1) := by decide +kernel
theorem dX6_walk_61 : decode cX6_walk 61 = .ok (.iload_n 3, 1) := by decide +kernel
theorem dX6_walk_62 : decode cX6_walk 62 = .ok (.aload 5, 2) := by decide +kernel
theorem dX6_walk_64 : decode cX6_walk 64 = .ok (.invokestatic 238, 3) := by decide +kernel
theorem dX6_walk_67 : decode cX6_walk 67 = .ok (.ior, 1) := by decide +kernel
theorem dX6_walk_68 : decode cX6_walk 68 = .ok (.istore_n 3, 1) := by decide +kernel
theorem dX6_walk_69 : decode cX6_walk 69 = .ok (.aload 5, 2) := by decide +kernel
theorem dX6_walk_71 : decode cX6_walk 71 = .ok (.invokevirtual 126, 3) := by decide +kernel
theorem dX6_walk_74 : decode cX6_walk 74 = .ok (.ifCond .ne 18, 3) := by decide +kernel
theorem dX6_walk_77 : decode cX6_walk 77 = .ok (.iload_n 3, 1) := by decide +kernel
theorem dX6_walk_78 : decode cX6_walk 78 = .ok (.aload_n 0, 1) := by decide +kernel
theorem dX6_walk_79 : decode cX6_walk 79 = .ok (.getfield 242, 3) := by decide +kernel
theorem dX6_walk_82 : decode cX6_walk 82 = .ok (.aload 5, 2) := by decide +kernel
theorem dX6_walk_84 : decode cX6_walk 84 = .ok (.iload_n 2, 1) := by decide +kernel
theorem dX6_walk_85 : decode cX6_walk 85 = .ok (.iconst 1, 1) := by decide +kernel
theorem dX6_walk_86 : decode cX6_walk 86 = .ok (.isub, 1) := by decide +kernel
theorem dX6_walk_87 : decode cX6_walk 87 = .ok (.invokestatic 221, 3) := by decide +kernel
theorem dX6_walk_90 : decode cX6_walk 90 = .ok (.ior, 1) := by decide +kernel
theorem dX6_walk_91 : decode cX6_walk 91 = .ok (.istore_n 3, 1) := by decide +kernel
theorem dX6_walk_92 : decode cX6_walk 92 = .ok (.iinc 6 1, 3) := by decide +kernel
theorem dX6_walk_95 : decode cX6_walk 95 = .ok (.goto (-65), 3) := by decide +kernel
theorem dX6_walk_98 : decode cX6_walk 98 = .ok (.iload_n 3, 1) := by decide +kernel
theorem dX6_walk_99 : decode cX6_walk 99 = .ok (.ireturn, 1) := by decide +kernel
set_option maxRecDepth 20000 in
theorem ggX6_foundAt_X2_isLockedOut : GoodIn wsX6_foundAt wsX2_isLockedOut := goodIn_r _ [5, 6, 7, 8, 9, 10, 11, 12, 13, 14, 15, 16, 17] (by decide +kernel) (by decide +kernel)
set_option maxRecDepth 20000 in
theorem gX6_foundAt_X2_isLockedOut : GoodIn wsX6_foundAt (wsV RX6 126 RX2 yX2_isLockedOut wsX2_isLockedOut) := goodIn_app (goodIn_of _ (by decide +kernel)) ggX6_foundAt_X2_isLockedOut
theorem dX6_foundAt_0 : decode cX6_foundAt 0 = .ok (.iconst 1, 1) := by decide +kernel
theorem dX6_foundAt_1 : decode cX6_foundAt 1 = .ok (.aload_n 0, 1) := by decide +kernel
theorem dX6_foundAt_2 : decode cX6_foundAt 2 = .ok (.getfield 154, 3) := by decide +kernel
theorem dX6_foundAt_5 : decode cX6_foundAt 5 = .ok (.ishl, 1) := by decide +kernel
theorem dX6_foundAt_6 : decode cX6_foundAt 6 = .ok (.istore_n 1, 1) := by decide +kernel
theorem dX6_foundAt_7 : decode cX6_foundAt 7 = .ok (.aload_n 0, 1) := by decide +kernel
theorem dX6_foundAt_8 : decode cX6_foundAt 8 = .ok (.invokevirtual 126, 3) := by decide +kernel
theorem dX6_foundAt_11 : decode cX6_foundAt 11 = .ok (.ifCond .eq 15, 3) := by decide +kernel
theorem dX6_foundAt_14 : decode cX6_foundAt 14 = .ok (.iload_n 1, 1) := by decide +kernel
theorem dX6_foundAt_15 : decode cX6_foundAt 15 = .ok (.iconst 1, 1) := by decide +kernel
theorem dX6_foundAt_16 : decode cX6_foundAt 16 = .ok (.bipush 8, 2) := by decide +kernel
theorem dX6_foundAt_18 : decode cX6_foundAt 18 = .ok (.aload_n 0, 1) := by decide +kernel
theorem dX6_foundAt_19 : decode cX6_foundAt 19 = .ok (.getfield 157, 3) := by decide +kernel
theorem dX6_foundAt_22 : decode cX6_foundAt 22 = .ok (.iadd, 1) := by decide +kernel
theorem dX6_foundAt_23 : decode cX6_foundAt 23 = .ok (.ishl, 1) := by decide +kernel
theorem dX6_foundAt_24 : decode cX6_foundAt 24 = .ok (.ior, 1) := by decide +kernel
theorem dX6_foundAt_25 : decode cX6_foundAt 25 = .ok (.istore_n 1, 1) := by decide +kernel
theorem dX6_foundAt_26 : decode cX6_foundAt 26 = .ok (.iload_n 1, 1) := by decide +kernel
theorem dX6_foundAt_27 : decode cX6_foundAt 27 = .ok (.ireturn, 1) := by decide +kernel
theorem dX6_tellingSignals_0 : decode cX6_tellingSignals 0 = .ok (.iload_n 0, 1) := by decide +kernel
theorem dX6_tellingSignals_1 : decode cX6_tellingSignals 1 = .ok (.tableswitch 47 0 4 #[35, 38, 41, 41, 44], 35) := by decide +kernel
theorem dX6_tellingSignals_36 : decode cX6_tellingSignals 36 = .ok (.bipush 25, 2) := by decide +kernel
theorem dX6_tellingSignals_38 : decode cX6_tellingSignals 38 = .ok (.ireturn, 1) := by decide +kernel
theorem dX6_tellingSignals_39 : decode cX6_tellingSignals 39 = .ok (.bipush 27, 2) := by decide +kernel
theorem dX6_tellingSignals_41 : decode cX6_tellingSignals 41 = .ok (.ireturn, 1) := by decide +kernel
theorem dX6_tellingSignals_42 : decode cX6_tellingSignals 42 = .ok (.bipush 31, 2) := by decide +kernel
theorem dX6_tellingSignals_44 : decode cX6_tellingSignals 44 = .ok (.ireturn, 1) := by decide +kernel
theorem dX6_tellingSignals_45 : decode cX6_tellingSignals 45 = .ok (.bipush 63, 2) := by decide +kernel
theorem dX6_tellingSignals_47 : decode cX6_tellingSignals 47 = .ok (.ireturn, 1) := by decide +kernel
theorem dX6_tellingSignals_48 : decode cX6_tellingSignals 48 = .ok (.bipush 24, 2) := by decide +kernel
theorem dX6_tellingSignals_50 : decode cX6_tellingSignals 50 = .ok (.ireturn, 1) := by decide +kernel
